/-! TOKENS TAKEN -/
/-- the token: its kind, from where, to where, its value; behind it R -/
def PT (u : Nat) (I : ow_I) (k e v : Nat) (R : List Nat) : Prop := I u 2 = nI k ∧ I u 4 = nI e ∧ I u 5 = nI v ∧ sfx u I e R
/-- what may stand behind a semicolon: nothing, a buyer, a barrel -/
def hd3 (R : List Nat) : Prop := R = [] ∨ (∃ R', R = gl_tx 6 ++ R') ∨ ∃ R', R = gl_tx 7 ++ R'
/-- a row begins at a -/
def AT (u : Nat) (I : ow_I) (a : Nat) (R : List Nat) : Prop := sfx u I a R ∧ (if R.length = 0 then I u 2 = nI 0 else I u 2 = nI 1 ∧ I u 3 = nI a ∧ I u 4 = nI (a + (if lx R 1 = 117 then 5 else 6)))
section TAK
variable {p u a : Nat} {I J : ow_I} {R : List Nat} {k s e v : Nat}
theorem PT_of {k s e v : Nat} {I' : ow_I} (h : I = tkS I' u (nI k) (nI s) (nI e) (nI v)) (hs : sfx u I' e R) : PT u I k e v R := by
  subst h
  exact ⟨tk_2, tk_4, tk_5, sfx_tk hs⟩
theorem sfx_r (h : sfx u I a R) (e : J u = I u) (e1 : J (u + 1) = I (u + 1)) : sfx u J a R := sfx_row h (by rw [e]) e1
theorem PT_r (h : PT u I k e v R) (g : J u = I u) (g1 : J (u + 1) = I (u + 1)) : PT u J k e v R := ⟨by rw [g]; exact h.1, by rw [g]; exact h.2.1, by rw [g]; exact h.2.2.1, sfx_r h.2.2.2 g g1⟩
theorem AT_r (h : AT u I a R) (g : J u = I u) (g1 : J (u + 1) = I (u + 1)) : AT u J a R := ⟨sfx_r h.1 g g1, by rw [g]; exact h.2⟩
theorem nx_d {c w : Nat} (h4 : I u 4 = nI e) (hs : sfx u I e (32 :: (dl w ++ c :: R))) (hw : w < 1000) (hc : kdc c ≠ nI 2) : PT u (U_advance u I) 2 (e + 1 + (dl w).length) w (c :: R) := by
  obtain ⟨⟨d, D, e1, hl⟩, h2, h3⟩ := dl_v hw
  have q := sfx_a (M := 32 :: dl w) (R := c :: R) hs
  rw [List.length_cons, show e + ((dl w).length + 1) = e + 1 + (dl w).length by omega] at q
  refine PT_of (I' := I) (s := e + 1) ?_ q
  rw [e1] at hs h2 h3
  rw [adv_d h4 hs h2 hc hl, h3, e1, List.length_cons]
theorem nx_s (h4 : I u 4 = nI e) (hs : sfx u I e (59 :: R)) : PT u (U_advance u I) 3 (e + 1) 0 R := PT_of (I' := I) (adv_s h4 hs) (sfx_c hs).2.1
theorem nx_a (h4 : I u 4 = nI e) (hs : sfx u I e R) (hR : hd3 R) : AT u (U_advance u I) e R := by
  unfold AT
  rcases hR with rfl | ⟨R', rfl⟩ | ⟨R', rfl⟩
  · rw [adv_e h4 hs]
    exact ⟨sfx_tk hs, by rw [if_pos (show ([] : List Nat).length = 0 from rfl)]; exact tk_2⟩
  · have q := adv_w (W := [117, 121, 101, 114]) (c := 32) (d := 98) (R := R') h4 hs (by decide) (by decide +kernel) (by decide)
    rw [q, if_neg (show ¬ (gl_tx 6 ++ R').length = 0 by show ¬ R'.length + 6 = 0; omega), if_pos (show lx (gl_tx 6 ++ R') 1 = 117 from rfl)]
    exact ⟨sfx_tk hs, tk_2, tk_3, tk_4⟩
  · have q := adv_w (W := [97, 114, 114, 101, 108]) (c := 32) (d := 98) (R := R') h4 hs (by decide) (by decide +kernel) (by decide)
    rw [q, if_neg (show ¬ (gl_tx 7 ++ R').length = 0 by show ¬ R'.length + 7 = 0; omega), if_neg (show ¬ lx (gl_tx 7 ++ R') 1 = 117 by show ¬ 97 = 117; decide)]
    exact ⟨sfx_tk hs, tk_2, tk_3, tk_4⟩
theorem iw_L {w : Nat} (h3 : tn (I u 3) = a) (h : ∀ j, j < gl_len w → I (u + 1) (a + j) = nI (gl_ch w j)) : ∀ n i, i ≤ gl_len w → gl_len w < i + n → U_isWord_L28 u w n I i = true := by
  intro n
  induction n with
  | zero => intro i h1 h2; omega
  | succ n ih =>
    intro i h1 h2
    simp only [U_isWord_L28]
    by_cases c : gl_len w ≤ i
    · rw [if_pos c]
    · rw [if_neg c, h3, if_pos (h i (by omega))]
      exact ih (i + 1) (by omega) (by omega)
theorem iw_t {w n : Nat} (hn : gl_len w = n) (hn2 : n < 100) (ha : a ≤ 500) (h2 : I u 2 = nI 1) (h3 : I u 3 = nI a) (h4 : I u 4 = nI (a + n)) (h : ∀ j, j < n → I (u + 1) (a + j) = nI (gl_ch w j)) : U_isWord u w I = true := by
  unfold U_isWord
  rw [if_pos h2, h4, h3, nI_sb (by omega), hn, if_pos (by congr 1; omega)]
  exact iw_L (by rw [h3, tn_nI (by omega)]) (by rw [hn]; exact h) _ 0 (Nat.zero_le _) (by omega)
theorem iw_k {w : Nat} (h2 : ¬ I u 2 = nI 1) : ¬ U_isWord u w I = true := by
  unfold U_isWord
  rw [if_neg h2]; decide
theorem iw_n {w n : Nat} (hn : ¬ n = gl_len w) (hw : gl_len w < 100) (hn2 : n < 100) (ha : a ≤ 500) (h3 : I u 3 = nI a) (h4 : I u 4 = nI (a + n)) : ¬ U_isWord u w I = true := by
  unfold U_isWord
  rw [h4, h3, nI_sb (by omega), Nat.add_sub_cancel_left]
  by_cases c : I u 2 = nI 1
  · rw [if_pos c, if_neg (fun z => hn ((nI_eq (by omega) (by omega)).mp z))]; decide
  · rw [if_neg c]; decide
theorem at_y {R' : List Nat} (h : AT u I a (gl_tx 6 ++ R')) : U_isWord u 1 I = true ∧ I u 4 = nI (a + 5) ∧ sfx u I (a + 5) (32 :: R') := by
  obtain ⟨hs, hk⟩ := h
  rw [if_neg (show ¬ (gl_tx 6 ++ R').length = 0 by show ¬ R'.length + 6 = 0; omega), if_pos (show lx (gl_tx 6 ++ R') 1 = 117 from rfl)] at hk
  refine ⟨iw_t (n := 5) rfl (by decide) (by have := hs.2.1; omega) hk.1 hk.2.1 hk.2.2 (fun j hj => ?_), hk.2.2, sfx_a (M := [98, 117, 121, 101, 114]) hs⟩
  have := hs.2.2 j (Nat.lt_of_lt_of_le hj (show 5 ≤ R'.length + 6 by omega))
  rw [this]
  match j, hj with
  | 0, _ => rfl
  | 1, _ => rfl
  | 2, _ => rfl
  | 3, _ => rfl
  | 4, _ => rfl
theorem at_b {R' : List Nat} (h : AT u I a (gl_tx 7 ++ R')) : U_isWord u 2 I = true ∧ ¬ U_isWord u 1 I = true ∧ I u 4 = nI (a + 6) ∧ sfx u I (a + 6) (32 :: R') := by
  obtain ⟨hs, hk⟩ := h
  rw [if_neg (show ¬ (gl_tx 7 ++ R').length = 0 by show ¬ R'.length + 7 = 0; omega), if_neg (show ¬ lx (gl_tx 7 ++ R') 1 = 117 by show ¬ 97 = 117; decide)] at hk
  refine ⟨iw_t (n := 6) rfl (by decide) (by have := hs.2.1; omega) hk.1 hk.2.1 hk.2.2 (fun j hj => ?_), iw_n (n := 6) (by decide) (by decide) (by decide) (by have := hs.2.1; omega) hk.2.1 hk.2.2, hk.2.2, sfx_a (M := [98, 97, 114, 114, 101, 108]) hs⟩
  have := hs.2.2 j (Nat.lt_of_lt_of_le hj (show 6 ≤ R'.length + 7 by omega))
  rw [this]
  match j, hj with
  | 0, _ => rfl
  | 1, _ => rfl
  | 2, _ => rfl
  | 3, _ => rfl
  | 4, _ => rfl
  | 5, _ => rfl
theorem at_e (h : AT u I a []) : (¬ U_isWord u 1 I = true) ∧ (¬ U_isWord u 2 I = true) ∧ I u 2 = nI 0 := by
  obtain ⟨-, hk⟩ := h
  rw [if_pos (show ([] : List Nat).length = 0 from rfl)] at hk
  exact ⟨iw_k (by rw [hk]; decide), iw_k (by rw [hk]; decide), hk⟩
theorem q_num {l m : Nat} (h2 : I (p + 1) 2 = nI 2) (h5 : I (p + 1) 5 = nI v) (hl : l ≤ v) (hm : v ≤ m) (hb : m < 2 ^ 31) : Q_takeNumber p (nI l) (nI m) I = (true, U_advance (p + 1) (ow_u I p 4 (nI v))) := by
  have hr : Q_isInRange p (nI l) (nI m) I = true := by
    unfold Q_isInRange
    rw [h5, if_neg (fun z => by have := (nI_lt' (by omega) (by omega)).mp z; omega), if_neg (fun z => by have := (nI_lt' (by omega) (by omega)).mp z; omega)]
  unfold Q_takeNumber
  rw [if_pos h2, if_pos hr, lt_eq, lt_eq, h5]
/-- a number is taken, a number follows -/
theorem q_nd {l m c w : Nat} (h : PT (p + 1) I 2 e v (32 :: (dl w ++ c :: R))) (hl : l ≤ v) (hm : v ≤ m) (hb : m < 2 ^ 31) (hw : w < 1000) (hc : kdc c ≠ nI 2) : ∃ I' e', Q_takeNumber p (nI l) (nI m) I = (true, I') ∧ PT (p + 1) I' 2 e' w (c :: R) ∧ I' p 4 = nI v ∧ ∀ b, b ≠ p → b ≠ p + 1 → I' b = I b := by
  refine ⟨_, _, q_num h.1 h.2.2.1 hl hm hb, nx_d (by rw [rr_u (by omega)]; exact h.2.1) (sfx_r h.2.2.2 (rr_u (by omega)) (rr_u (by omega))) hw hc, ?_, fun b h1 h2 => ?_⟩
  · rw [rr_adv (by omega)]; exact ow_u_s _ _ _ _
  · rw [rr_adv h2, rr_u h1]
/-- a number is taken, a semicolon follows -/
theorem q_ns {l m : Nat} (h : PT (p + 1) I 2 e v (59 :: R)) (hl : l ≤ v) (hm : v ≤ m) (hb : m < 2 ^ 31) : ∃ I' e', Q_takeNumber p (nI l) (nI m) I = (true, I') ∧ PT (p + 1) I' 3 e' 0 R ∧ I' p 4 = nI v ∧ ∀ b, b ≠ p → b ≠ p + 1 → I' b = I b := by
  refine ⟨_, _, q_num h.1 h.2.2.1 hl hm hb, nx_s (by rw [rr_u (by omega)]; exact h.2.1) (sfx_r h.2.2.2 (rr_u (by omega)) (rr_u (by omega))), ?_, fun b h1 h2 => ?_⟩
  · rw [rr_adv (by omega)]; exact ow_u_s _ _ _ _
  · rw [rr_adv h2, rr_u h1]
theorem q_sm (h2 : I (p + 1) 2 = nI 3) (h4 : I (p + 1) 4 = nI e) (hs : sfx (p + 1) I e R) (hR : hd3 R) : ∃ I', Q_takeSemicolon p I = (true, I') ∧ AT (p + 1) I' e R ∧ ∀ b, b ≠ p + 1 → I' b = I b := by
  refine ⟨U_advance (p + 1) I, ?_, nx_a h4 hs hR, fun b h1 => rr_adv h1⟩
  unfold Q_takeSemicolon
  rw [if_pos h2, lt_eq]
theorem q_wd {w : Nat} (h : U_isWord (p + 1) w I = true) : Q_takeWord p w I = (true, U_advance (p + 1) I) := by
  unfold Q_takeWord
  rw [if_pos h, lt_eq]
theorem lt_p {α : Type} (b : Bool) (X : ow_I) (f : Bool × ow_I → α) : lt (b, X) f = f (b, X) := rfl
/-- the first row -/
theorem rd_mkt {v0 v1 v2 v3 v4 : Nat} (ha : a + 51 ≤ p ∨ p + 46 ≤ a) (hR : hd3 R) (h0 : U_isWord (p + 1) 0 I = true) (h4 : I (p + 1) 4 = nI e) (hs : sfx (p + 1) I e (32 :: (dl v0 ++ 32 :: (dl v1 ++ 32 :: (dl v2 ++ 32 :: (dl v3 ++ 32 :: (dl v4 ++ 59 :: R))))))) (b0 : 5 ≤ v0 ∧ v0 ≤ 60) (b1 : 1 ≤ v1 ∧ v1 ≤ v0) (b2 : 1 ≤ v2 ∧ v2 ≤ 9) (b3 : 1 ≤ v3 ∧ v3 ≤ 50) (b4 : v4 ≤ 50) : ∃ I' e', Q_readMarket p a I = (true, I') ∧ AT (p + 1) I' e' R ∧ I' (a + 1) 0 = nI v0 ∧ I' (a + 1) 1 = nI v1 ∧ I' a 1 = nI v2 ∧ I' a 2 = nI v3 ∧ I' a 3 = nI v4 ∧ (∀ k, 2 ≤ k → I' (a + 1) k = I (a + 1) k) ∧ (∀ k, 4 ≤ k → I' a k = I a k) ∧ ∀ b, b ≠ p → b ≠ p + 1 → b ≠ a → b ≠ a + 1 → I' b = I b := by
  have kc : kdc 32 ≠ nI 2 := by rw [kdc_o]; decide
  have kc2 : kdc 59 ≠ nI 2 := by rw [kdc_s]; decide
  have t0 := nx_d h4 hs (by omega) kc
  have f0 : ∀ b, b ≠ p + 1 → U_advance (p + 1) I b = I b := fun b hb => rr_adv hb
  unfold Q_readMarket
  rw [q_wd h0, lt_p true]
  dsimp only
  rw [if_pos (show true = true from rfl)]
  generalize U_advance (p + 1) I = I0 at t0 f0 ⊢
  obtain ⟨I1, e1, g1, t1, w1, f1⟩ := q_nd (l := 5) (m := 60) t0 b0.1 b0.2 (by decide) (show v1 < 1000 by omega) kc
  rw [g1, lt_p true]
  dsimp only
  rw [if_pos (show true = true from rfl), lt_eq, w1, ow_u_s]
  obtain ⟨I2, e2, g2, t2, w2, f2⟩ := q_nd (l := 1) (m := v0) (I := ow_u I1 (a + 1) 0 (nI v0)) (PT_r t1 (rr_u (by omega)) (rr_u (by omega))) b1.1 b1.2 (by omega) (show v2 < 1000 by omega) kc
  rw [g2, lt_p true]
  dsimp only
  rw [if_pos (show true = true from rfl), lt_eq, w2]
  obtain ⟨I3, e3, g3, t3, w3, f3⟩ := q_nd (l := 1) (m := 9) (I := ow_u I2 (a + 1) 1 (nI v1)) (PT_r t2 (rr_u (by omega)) (rr_u (by omega))) b2.1 b2.2 (by decide) (show v3 < 1000 by omega) kc
  rw [g3, lt_p true]
  dsimp only
  rw [if_pos (show true = true from rfl), lt_eq, w3]
  obtain ⟨I4, e4, g4, t4, w4, f4⟩ := q_nd (l := 1) (m := 50) (I := ow_u I3 a 1 (nI v2)) (PT_r t3 (rr_u (by omega)) (rr_u (by omega))) b3.1 b3.2 (by decide) (show v4 < 1000 by omega) kc2
  rw [g4, lt_p true]
  dsimp only
  rw [if_pos (show true = true from rfl), lt_eq, w4]
  obtain ⟨I5, e5, g5, t5, w5, f5⟩ := q_ns (l := 0) (m := 50) (I := ow_u I4 a 2 (nI v3)) (PT_r t4 (rr_u (by omega)) (rr_u (by omega))) (Nat.zero_le _) b4 (by decide)
  rw [g5, lt_p true]
  dsimp only
  rw [if_pos (show true = true from rfl), lt_eq, w5]
  have t6 : PT (p + 1) (ow_u I5 a 3 (nI v4)) 3 e5 0 R := PT_r t5 (rr_u (by omega)) (rr_u (by omega))
  obtain ⟨I6, g6, t7, f6⟩ := q_sm t6.1 t6.2.1 t6.2.2.2 hR
  rw [g6, lt_p true]
  have r5 := f5 a (by omega) (by omega)
  have r5' := f5 (a + 1) (by omega) (by omega)
  have r4 := f4 a (by omega) (by omega)
  have r4' := f4 (a + 1) (by omega) (by omega)
  have r3 := f3 a (by omega) (by omega)
  have r3' := f3 (a + 1) (by omega) (by omega)
  have r2 := f2 a (by omega) (by omega)
  have r2' := f2 (a + 1) (by omega) (by omega)
  have r1 := f1 a (by omega) (by omega)
  have r1' := f1 (a + 1) (by omega) (by omega)
  have r0 := f0 a (by omega)
  have r0' := f0 (a + 1) (by omega)
  have r6 := f6 a (by omega)
  have r6' := f6 (a + 1) (by omega)
  have x1 : I6 (a + 1) = ow_u I2 (a + 1) 1 (nI v1) (a + 1) := by rw [r6', rr_u (by omega), r5', rr_u (by omega), r4', rr_u (by omega), r3']
  have x2 : I2 (a + 1) = ow_u I1 (a + 1) 0 (nI v0) (a + 1) := r2'
  refine ⟨I6, e5, rfl, t7, ?_, ?_, ?_, ?_, ?_, fun k hk => ?_, fun k hk => ?_, fun b c1 c2 c3 c4 => ?_⟩
  · rw [x1, ow_u_k _ _ _ _ (by decide), x2]; exact ow_u_s _ _ _ _
  · rw [x1]; exact ow_u_s _ _ _ _
  · rw [r6, ow_u_k _ _ _ _ (by decide), r5, ow_u_k _ _ _ _ (by decide), r4]; exact ow_u_s _ _ _ _
  · rw [r6, ow_u_k _ _ _ _ (by decide), r5]; exact ow_u_s _ _ _ _
  · rw [r6]; exact ow_u_s _ _ _ _
  · rw [x1, ow_u_k _ _ _ _ (by omega), x2, ow_u_k _ _ _ _ (by omega), r1', r0']
  · rw [r6, ow_u_k _ _ _ _ (by omega), r5, ow_u_k _ _ _ _ (by omega), r4, ow_u_k _ _ _ _ (by omega), r3, rr_u (by omega), r2, rr_u (by omega), r1, r0]
  · rw [f6 b c2, rr_u c3, f5 b c1 c2, rr_u c3, f4 b c1 c2, rr_u c3, f3 b c1 c2, rr_u c4, f2 b c1 c2, rr_u c4, f1 b c1 c2, f0 b c2]
/-- a buyer's row -/
theorem rd_byr {c s t : Nat} (ha : a + 51 ≤ p ∨ p + 46 ≤ a) (h8 : tn (I a 8) ≤ 6) (hR : hd3 R) (h : AT (p + 1) I e (gl_tx 6 ++ (dl c ++ 32 :: (dl s ++ 32 :: (dl t ++ 59 :: R))))) (b0 : c ≤ 899) (b1 : s ≤ 4) (b2 : 1 ≤ t ∧ t ≤ 150) : ∃ I' e' K, Q_readBuyer p a I = (true, I') ∧ AT (p + 1) I' e' R ∧ (∀ b, b ≠ p → b ≠ p + 1 → K b = I b) ∧ ∀ b, b ≠ p + 1 → I' b = K_takeBuyer a (nI c) (nI s) (nI t) K b := by
  have kc : kdc 32 ≠ nI 2 := by rw [kdc_o]; decide
  have kc2 : kdc 59 ≠ nI 2 := by rw [kdc_s]; decide
  obtain ⟨h0, h4, hs⟩ := at_y h
  have t0 := nx_d h4 hs (by omega) kc
  have f0 : ∀ b, b ≠ p + 1 → U_advance (p + 1) I b = I b := fun b hb => rr_adv hb
  unfold Q_readBuyer
  rw [q_wd h0, lt_p true]
  dsimp only
  rw [if_pos (show true = true from rfl)]
  generalize U_advance (p + 1) I = I0 at t0 f0 ⊢
  obtain ⟨I1, e1, g1, t1, w1, f1⟩ := q_nd (l := 0) (m := 9999) t0 (Nat.zero_le _) (by omega) (by decide) (show s < 1000 by omega) kc
  rw [g1, lt_p true]
  dsimp only
  rw [if_pos (show true = true from rfl)]
  obtain ⟨I2, e2, g2, t2, w2, f2⟩ := q_nd (l := 0) (m := 4) t1 (Nat.zero_le _) b1 (by decide) (show t < 1000 by omega) kc2
  rw [g2, lt_p true]
  dsimp only
  rw [if_pos (show true = true from rfl)]
  obtain ⟨I3, e3, g3, t3, w3, f3⟩ := q_ns (l := 1) (m := 999) t2 b2.1 (by omega) (by decide)
  rw [g3, lt_p true]
  dsimp only
  rw [if_pos (show true = true from rfl), w1, w2, w3, lt_eq]
  have fK : ∀ b, b ≠ p → b ≠ p + 1 → I3 b = I b := fun b c1 c2 => by rw [f3 b c1 c2, f2 b c1 c2, f1 b c1 c2, f0 b c2]
  have h8' : tn (I3 a 8) ≤ 6 := by rw [fK a (by omega) (by omega)]; exact h8
  have t4 : PT (p + 1) (K_takeBuyer a (nI c) (nI s) (nI t) I3) 3 e3 0 R := PT_r t3 (rr_tbuy (by omega) h8') (rr_tbuy (by omega) h8')
  obtain ⟨I4, g4, t5, f4⟩ := q_sm t4.1 t4.2.1 t4.2.2.2 hR
  rw [g4, lt_p true]
  exact ⟨I4, e3, I3, rfl, t5, fK, f4⟩
end TAK
