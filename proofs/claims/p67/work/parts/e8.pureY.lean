/-! ROWS OF THE SETUP READ -/
def yT (w : Nat → Nat → Nat) (i : Nat) (R : List Nat) : List Nat := gl_tx 6 ++ (dl (w (7 + i) 900) ++ 32 :: (dl (w (11 + i) 5) ++ 32 :: (dl (1 + w (15 + i) 150) ++ 59 :: R)))
def yR (w : Nat → Nat → Nat) : Nat → Nat → List Nat → List Nat
  | _, 0, R => R
  | i, d + 1, R => yT w i (yR w (i + 1) d R)
def jR (w : Nat → Nat → Nat) (k : Nat) : Nat → List Nat → List Nat
  | 0, R => R
  | j + 1, R => 32 :: (dl (10 + w (31 + k + 7 * j) 141) ++ jR w k j R)
def bT (w : Nat → Nat → Nat) (k : Nat) (R : List Nat) : List Nat := gl_tx 7 ++ (dl (1 + w (19 + k) 120) ++ jR w k (w (25 + k) 5 + 1) (59 :: R))
def bR (w : Nat → Nat → Nat) : Nat → Nat → List Nat → List Nat
  | _, 0, R => R
  | k, d + 1, R => bT w k (bR w (k + 1) d R)
def mT (w : Nat → Nat → Nat) (R : List Nat) : List Nat := gl_tx 3 ++ (dl (5 + w 0 30) ++ 32 :: (dl (1 + w 1 (5 + w 0 30)) ++ 32 :: (dl (1 + w 2 4) ++ 32 :: (dl (1 + w 6 30) ++ 32 :: (dl (w 3 51) ++ 59 :: R)))))
section TEX
variable {w : Nat → Nat → Nat}
theorem c4_ (R : List Nat) : gl_tx 4 ++ R = 32 :: R := rfl
theorem c5_ (R : List Nat) : gl_tx 5 ++ R = 59 :: R := rfl
theorem mT_e (R : List Nat) : tM w ++ R = mT w R := by
  unfold tM mT
  simp only [List.nil_append, List.append_assoc, List.cons_append, c4_, c5_]
theorem yT_e (i : Nat) (R : List Nat) : tY w (i + 1) ++ R = tY w i ++ yT w i R := by
  simp only [tY, yT, List.nil_append, List.append_assoc, List.cons_append, c4_, c5_]
theorem yR_e : ∀ (d i : Nat) (R : List Nat), tY w (i + d) ++ R = tY w i ++ yR w i d R := by
  intro d
  induction d with
  | zero => intro i R; rfl
  | succ d ih =>
    intro i R
    rw [show i + (d + 1) = (i + 1) + d by omega, ih (i + 1) R, yT_e]
    rfl
theorem jR_e (k : Nat) : ∀ (j : Nat) (s R : List Nat), tJ w k j s ++ R = s ++ jR w k j R := by
  intro j
  induction j with
  | zero => intro s R; rfl
  | succ j ih =>
    intro s R
    simp only [tJ, jR]
    rw [ih]
    simp only [List.nil_append, List.append_assoc, List.cons_append, c4_]
theorem bT_e (k : Nat) (R : List Nat) : tB w (k + 1) ++ R = tB w k ++ bT w k R := by
  show [] ++ tJ w k (w (25 + k) 5 + 1) (tS w k (tB w k)) ++ gl_tx 5 ++ R = _
  rw [List.nil_append, List.append_assoc, c5_, jR_e]
  simp only [tS, bT, List.nil_append, List.append_assoc]
theorem bR_e : ∀ (d k : Nat) (R : List Nat), tB w (k + d) ++ R = tB w k ++ bR w k d R := by
  intro d
  induction d with
  | zero => intro k R; rfl
  | succ d ih =>
    intro k R
    rw [show k + (d + 1) = (k + 1) + d by omega, ih (k + 1) R, bT_e]
    rfl
theorem tB_e (n : Nat) : tB w n = mT w (yR w 0 (1 + w 4 4) (bR w 0 n [])) := by
  have h := bR_e (w := w) n 0 []
  rw [List.append_nil, Nat.zero_add] at h
  rw [h]
  show tY w (1 + w 4 4) ++ _ = _
  have h2 := yR_e (w := w) (1 + w 4 4) 0 (bR w 0 n [])
  rw [Nat.zero_add] at h2
  rw [h2]
  exact mT_e _
theorem hd_b : ∀ d k, hd3 (bR w k d []) ∧ (bR w k d [] = [] ∨ ∃ R', bR w k d [] = gl_tx 7 ++ R') := fun d k => match d with
  | 0 => ⟨Or.inl rfl, Or.inl rfl⟩
  | _ + 1 => ⟨Or.inr (Or.inr ⟨_, rfl⟩), Or.inr ⟨_, rfl⟩⟩
theorem hd_y {R : List Nat} (hR : hd3 R) : ∀ d i, hd3 (yR w i d R) := fun d i => match d with
  | 0 => hR
  | _ + 1 => Or.inr (Or.inl ⟨_, rfl⟩)
end TEX
section ROW
variable {w : Nat → Nat → Nat} {Z : Nat → Nat} {p a v0 v1 v2 v4 : Nat} {I J : ow_I} {R : List Nat} {k e v : Nat}
theorem rd_y1 (hw : w = pkf Z) {i : Nat} (ha : a + 51 ≤ p ∨ p + 46 ≤ a) (hR : hd3 R) (h : AT (p + 1) I e (yT w i R)) (hg : gs a I J v0 v1 v2 v4 k) (hk : k < 6) : ∃ I' e' J', Q_readBuyer p a I = (true, I') ∧ AT (p + 1) I' e' R ∧ gs a I' J' v0 v1 v2 v4 (k + 1) := by
  have p1 := pw hw (7 + i) (n := 900) (by decide)
  have p2 := pw hw (11 + i) (n := 5) (by decide)
  have p3 := pw hw (15 + i) (n := 150) (by decide)
  have h8 : tn (I a 8) ≤ 6 := by rw [hg.1.1.2.2.1.1]; exact hg.1.2.1.2.1.2
  obtain ⟨I', e', K, g1, g2, g3, g4⟩ := rd_byr ha h8 hR h (by omega) (by omega) ⟨by omega, by omega⟩
  have hK : gs a K J v0 v1 v2 v4 k := gs_row hg (fun b z1 z2 => g3 b (by omega) (by omega))
  exact ⟨I', e', _, g1, g2, gs_row (gs_buyer hK hk (by omega)) (fun b z1 z2 => g4 b (by omega))⟩
theorem rd_yL (hw : w = pkf Z) (ha : a + 51 ≤ p ∨ p + 46 ≤ a) (hR : hd3 R) (hR2 : R = [] ∨ ∃ R', R = gl_tx 7 ++ R') : ∀ (d fuel i e : Nat) (I J : ow_I), i + d ≤ 6 → d < fuel → AT (p + 1) I e (yR w i d R) → gs a I J v0 v1 v2 v4 i → ∃ I' e' J', Q_readBuyers_L12 p a fuel I i = (true, I') ∧ AT (p + 1) I' e' R ∧ gs a I' J' v0 v1 v2 v4 (i + d) := by
  intro d
  induction d with
  | zero =>
    intro fuel i e I J h1 h2 h3 h4
    obtain ⟨n, rfl⟩ : ∃ n, fuel = n + 1 := ⟨fuel - 1, by omega⟩
    have hn : ¬ U_isWord (p + 1) 1 I = true := by
      have h3 : AT (p + 1) I e R := h3
      rcases hR2 with rfl | ⟨R', rfl⟩
      · exact (at_e h3).1
      · exact (at_b h3).2.1
    refine ⟨I, e, J, ?_, h3, h4⟩
    simp only [Q_readBuyers_L12]
    rw [if_neg (by omega), if_neg hn]
  | succ d ih =>
    intro fuel i e I J h1 h2 h3 h4
    obtain ⟨n, rfl⟩ : ∃ n, fuel = n + 1 := ⟨fuel - 1, by omega⟩
    have h3 : AT (p + 1) I e (yT w i (yR w (i + 1) d R)) := h3
    obtain ⟨I1, e1, J1, g1, g2, g3⟩ := rd_y1 hw ha (hd_y hR d (i + 1)) h3 h4 (by omega)
    obtain ⟨I2, e2, J2, k1, k2, k3⟩ := ih n (i + 1) e1 I1 J1 (by omega) (by omega) g2 g3
    refine ⟨I2, e2, J2, ?_, k2, by rw [show i + (d + 1) = i + 1 + d by omega]; exact k3⟩
    simp only [Q_readBuyers_L12]
    rw [if_neg (by omega), if_pos (at_y h3).1, if_neg (by omega), g1, lt_p true]
    dsimp only
    rw [if_pos (show true = true from rfl)]
    exact k1
theorem rd_ys (hw : w = pkf Z) (ha : a + 51 ≤ p ∨ p + 46 ≤ a) (hR : hd3 R) (hR2 : R = [] ∨ ∃ R', R = gl_tx 7 ++ R') {n : Nat} (hn : n < 6) (h3 : AT (p + 1) I e (yR w 0 (1 + n) R)) (h4 : gs a I J v0 v1 v2 v4 0) : ∃ I' e' J', Q_readBuyers p a I = (true, I') ∧ AT (p + 1) I' e' R ∧ gs a I' J' v0 v1 v2 v4 (1 + n) := by
  rw [Nat.add_comm 1 n] at h3
  have h3 : AT (p + 1) I e (yT w 0 (yR w (0 + 1) n R)) := h3
  obtain ⟨I1, e1, J1, g1, g2, g3⟩ := rd_y1 hw ha (hd_y hR n (0 + 1)) h3 h4 (by omega)
  obtain ⟨I2, e2, J2, k1, k2, k3⟩ := rd_yL hw ha hR hR2 n 7 1 e1 I1 J1 (by omega) (by omega) g2 g3
  refine ⟨I2, e2, J2, ?_, k2, k3⟩
  unfold Q_readBuyers
  rw [g1, lt_p true]
  dsimp only
  rw [if_pos (show true = true from rfl)]
  exact k1
/-- the lengths of a barrel -/
theorem rd_len (hw : w = pkf Z) {k c : Nat} (hc : c ≠ p ∧ c ≠ p + 1 ∧ c ≠ p + 2 ∧ c + 1 ≠ p) : ∀ (j fuel i e v : Nat) (I : ow_I), i + j + 1 ≤ 9 → j + 1 < fuel → PT (p + 1) I 2 e v (jR w k j (59 :: R)) → 10 ≤ v → v ≤ 150 → (∀ t, t < i → ∃ l : Nat, I (c + 1) t = nI l ∧ 10 ≤ l ∧ l ≤ 150) → ∃ I' e', Q_readBarrel_L23 p c fuel I i = (true, I') ∧ PT (p + 1) I' 3 e' 0 R ∧ I' c 4 = nI (i + j + 1) ∧ I' c 1 = I c 1 ∧ (∀ t, t < i + j + 1 → ∃ l : Nat, I' (c + 1) t = nI l ∧ 10 ≤ l ∧ l ≤ 150) ∧ ∀ b, b ≠ p → b ≠ p + 1 → b ≠ c → b ≠ c + 1 → I' b = I b := by
  have kc : kdc 32 ≠ nI 2 := by rw [kdc_o]; decide
  have kc2 : kdc 59 ≠ nI 2 := by rw [kdc_s]; decide
  have step : ∀ (n i : Nat) (I I1 : ow_I), i < 9 → I (p + 1) 2 = nI 2 → Q_takeNumber p (nI 10) (nI 150) I = (true, I1) → Q_readBarrel_L23 p c (n + 1) I i = Q_readBarrel_L23 p c n (ow_u (ow_u I1 (c + 1) i (I1 p 4)) c 4 (nI (i + 1))) (i + 1) := by
    intro n i I I1 hi h2 hq
    simp only [Q_readBarrel_L23]
    rw [if_neg (by omega), hq, lt_p true]
    dsimp only
    rw [if_pos (show true = true from rfl), if_neg (show ¬ i = 9 by omega), if_pos h2, ite_self, lt_eq, lt_eq]
  intro j
  induction j with
  | zero =>
    intro fuel i e v I h1 h2 h3 h4 h5 h6
    obtain ⟨n, rfl⟩ : ∃ n, fuel = n + 1 + 1 := ⟨fuel - 2, by omega⟩
    have h3 : PT (p + 1) I 2 e v (59 :: R) := h3
    obtain ⟨I1, e1, g1, g2, g3, g4⟩ := q_ns (l := 10) (m := 150) h3 h4 h5 (by decide)
    rw [step (n + 1) i I I1 (by omega) h3.1 g1, g3]
    have t2 : PT (p + 1) (ow_u (ow_u I1 (c + 1) i (nI v)) c 4 (nI (i + 1))) 3 e1 0 R := PT_r g2 (by rw [rr_u (by omega), rr_u (by omega)]) (by rw [rr_u (by omega), rr_u (by omega)])
    refine ⟨_, e1, ?_, t2, ow_u_s _ _ _ _, ?_, fun t ht => ?_, fun b b1 b2 b3 b4 => ?_⟩
    · simp only [Q_readBarrel_L23]
      rw [if_neg (by omega), if_neg (show ¬ i + 1 = 0 by omega), if_neg (by rw [t2.1]; decide)]
    · rw [ow_u_k _ _ _ _ (by decide), rr_u (by omega), g4 c (by omega) (by omega)]
    · rw [rr_u (by omega)]
      by_cases d : t = i
      · subst d; exact ⟨v, ow_u_s _ _ _ _, h4, h5⟩
      · rw [ow_u_k _ _ _ _ d, g4 (c + 1) (by omega) (by omega)]
        exact h6 t (by omega)
    · rw [rr_u b3, rr_u b4, g4 b b1 b2]
  | succ j ih =>
    intro fuel i e v I h1 h2 h3 h4 h5 h6
    obtain ⟨n, rfl⟩ : ∃ n, fuel = n + 1 := ⟨fuel - 1, by omega⟩
    have p1 := pw hw (31 + k + 7 * j) (n := 141) (by decide)
    have nxt : ∃ (c2 : Nat) (R2 : List Nat), jR w k j (59 :: R) = c2 :: R2 ∧ kdc c2 ≠ nI 2 := by
      cases j with
      | zero => exact ⟨59, R, rfl, kc2⟩
      | succ j => exact ⟨32, _, rfl, kc⟩
    obtain ⟨c2, R2, n1, n2⟩ := nxt
    have h3 : PT (p + 1) I 2 e v (32 :: (dl (10 + w (31 + k + 7 * j) 141) ++ jR w k j (59 :: R))) := h3
    rw [n1] at h3
    obtain ⟨I1, e1, g1, g2, g3, g4⟩ := q_nd (l := 10) (m := 150) h3 h4 h5 (by decide) (by omega) n2
    rw [step n i I I1 (by omega) h3.1 g1, g3]
    rw [← n1] at g2
    have t2 : PT (p + 1) (ow_u (ow_u I1 (c + 1) i (nI v)) c 4 (nI (i + 1))) 2 e1 (10 + w (31 + k + 7 * j) 141) (jR w k j (59 :: R)) := PT_r g2 (by rw [rr_u (by omega), rr_u (by omega)]) (by rw [rr_u (by omega), rr_u (by omega)])
    obtain ⟨I2, e2, k1, k2, k3, k4, k5, k6⟩ := ih n (i + 1) e1 (10 + w (31 + k + 7 * j) 141) _ (by omega) (by omega) t2 (by omega) (by omega) (fun t ht => by
      rw [rr_u (by omega)]
      by_cases d : t = i
      · subst d; exact ⟨v, ow_u_s _ _ _ _, h4, h5⟩
      · rw [ow_u_k _ _ _ _ d, g4 (c + 1) (by omega) (by omega)]
        exact h6 t (by omega))
    refine ⟨I2, e2, k1, k2, by rw [k3]; congr 1; omega, ?_, fun t ht => k5 t (by omega), fun b b1 b2 b3 b4 => ?_⟩
    · rw [k4, ow_u_k _ _ _ _ (by decide), rr_u (by omega), g4 c (by omega) (by omega)]
    · rw [k6 b b1 b2 b3 b4, rr_u b3, rr_u b4, g4 b b1 b2]
/-- a barrel's row, behind its word -/
theorem rd_br (hw : w = pkf Z) {k c : Nat} (hc : c ≠ p ∧ c ≠ p + 1 ∧ c ≠ p + 2 ∧ c + 1 ≠ p) {r j : Nat} (hj : j ≤ 7) (hr : 1 ≤ r ∧ r ≤ 999) (h : PT (p + 1) I 2 e r (jR w k (j + 1) (59 :: R))) : ∃ I' e', Q_readBarrel p c I = (true, I') ∧ PT (p + 1) I' 3 e' 0 R ∧ I' c 4 = nI (j + 1) ∧ I' c 1 = nI r ∧ (∀ t, t < j + 1 → ∃ l : Nat, I' (c + 1) t = nI l ∧ 10 ≤ l ∧ l ≤ 150) ∧ ∀ b, b ≠ p → b ≠ p + 1 → b ≠ c → b ≠ c + 1 → I' b = I b := by
  have kc : kdc 32 ≠ nI 2 := by rw [kdc_o]; decide
  have kc2 : kdc 59 ≠ nI 2 := by rw [kdc_s]; decide
  have p1 := pw hw (31 + k + 7 * j) (n := 141) (by decide)
  have nxt : ∃ (c2 : Nat) (R2 : List Nat), jR w k j (59 :: R) = c2 :: R2 ∧ kdc c2 ≠ nI 2 := by
    cases j with
    | zero => exact ⟨59, R, rfl, kc2⟩
    | succ j => exact ⟨32, _, rfl, kc⟩
  obtain ⟨c2, R2, n1, n2⟩ := nxt
  have h : PT (p + 1) I 2 e r (32 :: (dl (10 + w (31 + k + 7 * j) 141) ++ jR w k j (59 :: R))) := h
  rw [n1] at h
  obtain ⟨I1, e1, g1, g2, g3, g4⟩ := q_nd (l := 1) (m := 999) h hr.1 hr.2 (by decide) (by omega) n2
  rw [← n1] at g2
  have t2 : PT (p + 1) (ow_u I1 c 1 (nI r)) 2 e1 (10 + w (31 + k + 7 * j) 141) (jR w k j (59 :: R)) := PT_r g2 (rr_u (by omega)) (rr_u (by omega))
  obtain ⟨I2, e2, k1, k2, k3, k4, k5, k6⟩ := rd_len hw hc j 11 0 e1 (10 + w (31 + k + 7 * j) 141) _ (by omega) (by omega) t2 (by omega) (by omega) (fun t ht => absurd ht (by omega))
  rw [Nat.zero_add] at k3 k5
  refine ⟨I2, e2, ?_, k2, k3, by rw [k4]; exact ow_u_s _ _ _ _, k5, fun b b1 b2 b3 b4 => by rw [k6 b b1 b2 b3 b4, rr_u b3, g4 b b1 b2]⟩
  unfold Q_readBarrel
  rw [g1, lt_p true]
  dsimp only
  rw [if_pos (show true = true from rfl), lt_eq, g3]
  exact k1
theorem rd_bL (hw : w = pkf Z) (ha : a + 51 ≤ p ∨ p + 46 ≤ a) {k : Nat} : ∀ (d fuel i e : Nat) (I : ow_I), i + d ≤ 20 → d < fuel → AT (p + 1) I e (bR w i d []) → gb a I v0 v1 v2 v4 k i → ∃ I', Q_readBarrels_L2 p a fuel I i = (true, I') ∧ I' (p + 1) 2 = nI 0 ∧ gb a I' v0 v1 v2 v4 k (i + d) := by
  intro d
  induction d with
  | zero =>
    intro fuel i e I h1 h2 h3 h4
    obtain ⟨n, rfl⟩ : ∃ n, fuel = n + 1 := ⟨fuel - 1, by omega⟩
    have h3 : AT (p + 1) I e [] := h3
    refine ⟨I, ?_, (at_e h3).2.2, h4⟩
    simp only [Q_readBarrels_L2]
    rw [if_neg (by omega), if_neg (at_e h3).2.1]
  | succ d ih =>
    intro fuel i e I h1 h2 h3 h4
    obtain ⟨n, rfl⟩ : ∃ n, fuel = n + 1 := ⟨fuel - 1, by omega⟩
    have p1 := pw hw (19 + i) (n := 120) (by decide)
    have p2 := pw hw (25 + i) (n := 5) (by decide)
    have kc : kdc 32 ≠ nI 2 := by rw [kdc_o]; decide
    have h3 : AT (p + 1) I e (gl_tx 7 ++ (dl (1 + w (19 + i) 120) ++ 32 :: (dl (10 + w (31 + i + 7 * w (25 + i) 5) 141) ++ jR w i (w (25 + i) 5) (59 :: bR w (i + 1) d [])))) := h3
    obtain ⟨b1, -, b2, b3⟩ := at_b h3
    have t0 := nx_d b2 b3 (by omega) kc
    have f0 : ∀ b, b ≠ p + 1 → U_advance (p + 1) I b = I b := fun b hb => rr_adv hb
    have e0 : Q_readBarrels_L2 p a (n + 1) I i = lt (U_advance (p + 1) I) (fun (I1 : ow_I) => lt (Q_readBarrel p (p + 4) I1) (fun (r2 : Bool × ow_I) => if r2.1 then lt (Q_takeSemicolon p r2.2) (fun (r3 : Bool × ow_I) => if r3.1 then lt (K_takeBarrel a (r3.2 (p + 4) 1) ((p + 4) + 1) 0 (tn (r3.2 (p + 4) 4)) r3.2) (fun (r4 : Int32 × ow_I) => Q_readBarrels_L2 p a n r4.2 (i + 1)) else (false, r3.2)) else (false, r2.2))) := by
      simp only [Q_readBarrels_L2]
      rw [if_neg (by omega), if_pos b1, if_neg (by omega)]
    rw [e0, lt_eq]
    generalize U_advance (p + 1) I = I0 at t0 f0 ⊢
    obtain ⟨I1, e1, g1, g2, g3, g4, g5, g6⟩ := rd_br (w := w) (k := i) (c := p + 4) (j := w (25 + i) 5) (R := bR w (i + 1) d []) hw ⟨by omega, by omega, by omega, by omega⟩ (by omega) ⟨by omega, by omega⟩ t0
    rw [g1, lt_p true]
    dsimp only
    rw [if_pos (show true = true from rfl)]
    obtain ⟨I2, k1, k2, k3⟩ := q_sm g2.1 g2.2.1 g2.2.2.2 (hd_b d (i + 1)).1
    rw [k1, lt_p true]
    dsimp only
    rw [if_pos (show true = true from rfl), lt_eq, k3 (p + 4) (by omega), g3, g4, tn_nI (by omega)]
    have hg : gb a I2 v0 v1 v2 v4 k i := gb_row h4 (fun b z1 z2 => by rw [k3 b (by omega), g6 b (by omega) (by omega) (by omega) (by omega), f0 b (by omega)])
    have hg2 := gb_take (r := 1 + w (19 + i) 120) (e := w (25 + i) 5 + 1) (fs := p + 4 + 1) hg (by omega) ⟨by omega, by omega⟩ ⟨by omega, by omega⟩ (by omega) (fun t ht => by rw [k3 (p + 4 + 1) (by omega)]; exact g5 t ht)
    have h10 : 0 ≤ I2 a 10 := by
      obtain ⟨f, hr, hv, -⟩ := hg
      rw [hr.2.2.1.2.1]; exact hv.2.2.1.1
    have t3 : AT (p + 1) (K_takeBarrel a (nI (1 + w (19 + i) 120)) (p + 4 + 1) 0 (w (25 + i) 5 + 1) I2).2 e1 (bR w (i + 1) d []) := AT_r k2 (rr_tbar (by omega) h10) (rr_tbar (by omega) h10)
    obtain ⟨I3, m1, m2, m3⟩ := ih n (i + 1) _ _ (by omega) (by omega) t3 hg2
    exact ⟨I3, m1, m2, by rw [show i + (d + 1) = i + 1 + d by omega]; exact m3⟩
end ROW
