/-! a barrel is filled; a new barrel -/
section RLJ
variable {a m B b : Nat} {I J : ow_I}
/-- a barrel's rows after t eels g -/
def fl_T (b : Nat) (I Y : ow_I) (g : Nat → Int32) (t : Nat) : Prop :=
  (∀ q, q ≠ b → q ≠ b + 1 → Y q = I q) ∧ (Y b 1 = nI t ∧ Y b 2 = sumL g t ∧ Y b 3 = maxL g t ∧ Y b 4 = nI (lonL g t)) ∧ (∀ j, (j = 0 ∨ 5 ≤ j) → Y b j = I b j) ∧ ∀ j, Y (b + 1) j = if j < t then g j else I (b + 1) j
theorem fl_add {Y : ow_I} {g : Nat → Int32} {t : Nat} (h : fl_T b I Y g t) (ht : t < 9) : fl_T b I (B_addEel b (g t) Y) g (t + 1) := by
  obtain ⟨h0, ⟨h1, h2, h3, h4⟩, h5, h6⟩ := h
  have e1 : tn (Y b 1) = t := by rw [h1, tn_nI (by omega)]
  unfold B_addEel
  rw [if_pos (by omega)]
  have hl : lonL g (t + 1) = if g t < nI 60 then lonL g t else lonL g t + 1 := rfl
  simp only [lt_eq]
  by_cases c : g t < nI 60
  · rw [if_pos c]
    rw [if_pos c] at hl
    refine ⟨fun q g1 g2 => ?_, ⟨?_, ?_, ?_, ?_⟩, fun j hj => ?_, fun j => ?_⟩
    · simp (disch := omega) only [u_one, rr_u, if_neg, if_pos, if_true]
      exact h0 q g1 g2
    · simp (disch := omega) only [u_one, rr_u, if_neg, if_pos, if_true]
      rw [h1, nI_add]
    · simp (disch := omega) only [u_one, rr_u, if_neg, if_pos, if_true]
      rw [h2]
      rfl
    · simp (disch := omega) only [u_one, rr_u, if_neg, if_pos, if_true]
      rw [h3]
      rfl
    · simp (disch := omega) only [u_one, rr_u, if_neg, if_pos, if_true]
      rw [h4, nI_add, hl]
      rfl
    · simp (disch := omega) only [u_one, rr_u, if_neg, if_pos, if_true]
      exact h5 j hj
    · rw [e1]
      by_cases d : j = t
      · rw [d]
        simp (disch := omega) only [u_one, rr_u, if_neg, if_pos, if_true]
      · simp (disch := omega) only [u_one, rr_u, if_neg, if_pos, if_true]
        rw [h6 j]
        by_cases e : j < t
        · rw [if_pos e, if_pos (by omega)]
        · rw [if_neg e, if_neg (by omega)]
  · rw [if_neg c]
    rw [if_neg c] at hl
    refine ⟨fun q g1 g2 => ?_, ⟨?_, ?_, ?_, ?_⟩, fun j hj => ?_, fun j => ?_⟩
    · simp (disch := omega) only [u_one, rr_u, if_neg, if_pos, if_true]
      exact h0 q g1 g2
    · simp (disch := omega) only [u_one, rr_u, if_neg, if_pos, if_true]
      rw [h1, nI_add]
    · simp (disch := omega) only [u_one, rr_u, if_neg, if_pos, if_true]
      rw [h2]
      rfl
    · simp (disch := omega) only [u_one, rr_u, if_neg, if_pos, if_true]
      rw [h3]
      rfl
    · simp (disch := omega) only [u_one, rr_u, if_neg, if_pos, if_true]
      rw [h4, nI_add, hl]
    · simp (disch := omega) only [u_one, rr_u, if_neg, if_pos, if_true]
      exact h5 j hj
    · rw [e1]
      by_cases d : j = t
      · rw [d]
        simp (disch := omega) only [u_one, rr_u, if_neg, if_pos, if_true]
      · simp (disch := omega) only [u_one, rr_u, if_neg, if_pos, if_true]
        rw [h6 j]
        by_cases e : j < t
        · rw [if_pos e, if_pos (by omega)]
        · rw [if_neg e, if_neg (by omega)]
theorem fl_all {f s e : Nat} (hf : (f ≠ b ∧ f ≠ b + 1) ∨ (f = b + 1 ∧ s = 0)) (hs : s ≤ e) (he : e ≤ 9) : fl_T b I (B_fill b f s e I) (fun j => I f (s + j)) (e - s) := by
  have L : ∀ (n t : Nat) (Y : ow_I), t ≤ e - s → e - s - t < n → fl_T b I Y (fun j => I f (s + j)) t → fl_T b I (B_fill_L7 b f s e n Y (s + t)) (fun j => I f (s + j)) (e - s) := by
    intro n
    induction n with
    | zero => intro t Y _ h; omega
    | succ n ih =>
      intro t Y ht hn h
      unfold B_fill_L7
      rw [if_neg (i_ge (nI_ge0 (by omega)))]
      by_cases c : e ≤ s + t
      · rw [if_pos c, show e - s = t by omega]
        exact h
      · rw [if_neg c, if_neg (by omega), lt_eq]
        have hr : Y f (s + t) = I f (s + t) := by
          rcases hf with hf | hf
          · rw [h.1 f hf.1 hf.2]
          · rw [hf.1, hf.2, h.2.2.2 (0 + t), if_neg (by omega)]
        have h1 := ih (t + 1) (B_addEel b (Y f (s + t)) Y) (by omega) (by omega) (by
          rw [hr]
          exact fl_add (g := fun j => I f (s + j)) h (by omega))
        exact h1
  have h0 : fl_T b I (B_emptyOut b I) (fun j => I f (s + j)) 0 := by
    simp only [B_emptyOut, lt_eq]
    refine ⟨fun q g1 g2 => ?_, ⟨?_, ?_, ?_, ?_⟩, fun j hj => ?_, fun j => ?_⟩
    · simp (disch := omega) only [u_one, rr_u, if_neg, if_pos, if_true]
    · simp (disch := omega) only [u_one, rr_u, if_neg, if_pos, if_true]
    · simp (disch := omega) only [u_one, rr_u, if_neg, if_pos, if_true]
      rfl
    · simp (disch := omega) only [u_one, rr_u, if_neg, if_pos, if_true]
      rfl
    · simp (disch := omega) only [u_one, rr_u, if_neg, if_pos, if_true]
      rfl
    · simp (disch := omega) only [u_one, rr_u, if_neg, if_pos, if_true]
    · simp (disch := omega) only [u_one, rr_u, if_neg, if_pos, if_true]
  show fl_T b I (lt (B_emptyOut b I) (fun I1 => B_fill_L7 b f s e 10 I1 s)) _ _
  rw [lt_eq]
  exact L 10 0 _ (Nat.zero_le _) (by omega) h0
theorem tot_s {g h : Nat → Int32} {n : Nat} (e : ∀ j, j < n → h j = g j) : sumL h n = sumL g n ∧ maxL h n = maxL g n ∧ lonL h n = lonL g n := ⟨sumL_c n e, maxL_c n e, lonL_c n e⟩
/-- a new barrel -/
theorem rl_take {r : Int32} {f s e : Nat} (h : rl a I (J (m + 1))) (hv : md_V (J (m + 1))) (h7 : tn (J (m + 1) 7) < 20) (hf : f < a ∨ a + 51 ≤ f ∨ (∃ k, k < tn (J (m + 1) 7) ∧ f = a + 11 + 2 * k + 1)) (hs : s < e) (he : e ≤ 9) (src : Nat → Int32) (hsrc : ∀ j, j < e - s → src j = I f (s + j)) :
    rl a (K_takeBarrel a r f s e I).2 (md_fill ((M_newBarrel m r J).2 (m + 1)) (tn (J (m + 1) 7)) 0 src (e - s)) ∧ (K_takeBarrel a r f s e I).1 = nI (tn (J (m + 1) 7)) := by
  have h6 := hv.2.1.2.2
  have h12 := hv.2.2.2.2.2.1
  have hq7 := hv
  rw [md_V_eq] at hq7
  have hq := VV_qle hq7
  have h7p := hv.2.2.1.1
  have he9 : ∀ k, k < tn (J (m + 1) 7) → tn (J (m + 1) (66 + 15 * k)) ≤ 9 := fun k hk => (hv.2.2.2.2.2.2.2.2.2 k hk).2.2
  have i7 := tn_inc h7p (by omega)
  have i12 := tn_inc h12.1 (by omega)
  have hm8 := mV8 hv
  obtain ⟨⟨t1, t2, t3⟩, ⟨s1, s2, s3, s4, s5, s6⟩, ⟨c1, c2, c3⟩, ⟨b1, b2, b3, b4⟩, hY, hQ, hB⟩ := h
  have hroom : K_hasRoom a I = true := by
    unfold K_hasRoom
    rw [c2, if_neg]
    rw [← nI_tn h7p]
    intro z
    have := (nI_leI (by omega) (by omega)).mp z
    omega
  generalize hN : tn (J (m + 1) 7) = n at *
  have hnn : nI n = J (m + 1) 7 := by rw [← hN]; exact nI_tn h7p
  simp only [K_takeBarrel, if_pos hroom, lt_eq, c2, hN]
  refine ⟨?_, trivial⟩
  have hT := @fl_all (a + 11 + 2 * n) (ow_u I a 10 (J (m + 1) 7 + nI 1)) f s e (Or.inl ⟨by omega, by omega⟩) (by omega) he
  have hg : ∀ j, j < e - s → (fun j => ow_u I a 10 (J (m + 1) 7 + nI 1) f (s + j)) j = src j := fun j hj => by
    show ow_u I a 10 (J (m + 1) 7 + nI 1) f (s + j) = src j
    rw [rr_u (by omega), hsrc j hj]
  obtain ⟨f0, ⟨f1, f2, f3, f4⟩, -, f6⟩ := hT
  obtain ⟨g1, g2, g3⟩ := tot_s hg
  generalize hI2 : B_fill (a + 11 + 2 * n) f s e (ow_u I a 10 (J (m + 1) 7 + nI 1)) = I2 at *
  simp only [B_beginWaiting, K_enqueue, lt_eq]
  have e12 : I2 a 12 = J (m + 1) 12 := by
    rw [f0 a (by omega) (by omega), u_one, if_neg (by decide)]
    exact c3
  have ea : ∀ j, I2 a j = if j = 10 then J (m + 1) 7 + nI 1 else I a j := fun j => by rw [f0 a (by omega) (by omega), u_one]
  have er : ∀ q, q ≠ a → q ≠ a + 11 + 2 * n → q ≠ a + 11 + 2 * n + 1 → I2 q = I q := fun q z1 z2 z3 => by rw [f0 q z2 z3, rr_u z1]
  simp (disch := omega) only [rr_u, e12, if_neg]
  have eg : ∀ j, (∀ q, q < 15 → j ≠ 66 + 15 * n + q) → md_fill ((M_newBarrel m r J).2 (m + 1)) n 0 src (e - s) j = if j = 12 then J (m + 1) 12 + nI 1 else if j = 16 + tn (J (m + 1) 12) then nI n else if j = 7 then J (m + 1) 7 + nI 1 else J (m + 1) j := by
    intro j hj
    have z0 := hj 0 (by decide)
    have z1 : ¬ (67 + 15 * n + 0 ≤ j ∧ j < 67 + 15 * n + 0 + (e - s)) := by
      intro z
      exact hj (j - (66 + 15 * n)) (by omega) (by omega)
    unfold md_fill
    rw [if_neg (by omega), if_neg z1]
    have z10 := hj 10 (by decide)
    have z11 := hj 11 (by decide)
    have z12 := hj 12 (by decide)
    have z13 := hj 13 (by decide)
    have z14 := hj 14 (by decide)
    simp (disch := omega) only [M_newBarrel, M_enqueue, M_putBarrel, lt_eq, u_one, hN, if_neg]
  have en : ∀ w, w < 15 → md_fill ((M_newBarrel m r J).2 (m + 1)) n 0 src (e - s) (66 + 15 * n + w) = if w = 0 then nI (e - s) else if w ≤ e - s then src (w - 1) else if w = 12 then nI 0 else if w = 14 then -1 else if w = 13 then -1 else if w = 11 then nI 0 else if w = 10 then r else J (m + 1) (66 + 15 * n + w) := by
    intro w hw
    unfold md_fill
    by_cases z : w = 0
    · rw [if_pos (by omega), if_pos z, Nat.zero_add]
    · rw [if_neg (by omega), if_neg z]
      by_cases z1 : w ≤ e - s
      · rw [if_pos (by omega), if_pos z1]
        congr 1
        omega
      · rw [if_neg (by omega), if_neg z1]
        obtain y | y | y | y | y | y : w = 10 ∨ w = 11 ∨ w = 12 ∨ w = 13 ∨ w = 14 ∨ w < 10 := by omega
        all_goals (try rw [y])
        all_goals simp (disch := omega) only [M_newBarrel, M_enqueue, M_putBarrel, lt_eq, u_one, hN, if_neg, if_pos, if_true]
  generalize md_fill ((M_newBarrel m r J).2 (m + 1)) n 0 src (e - s) = g at eg en
  have e7 : g 7 = J (m + 1) 7 + nI 1 := by
    rw [eg 7 (by omega)]
    simp (disch := omega) only [u_one, rr_u, if_neg, if_pos, if_true]
  have eg12 : g 12 = J (m + 1) 12 + nI 1 := by
    rw [eg 12 (by omega)]
    simp (disch := omega) only [u_one, rr_u, if_neg, if_pos, if_true]
  have eo : ∀ j, (j < 7 ∨ (7 < j ∧ j < 12) ∨ (12 < j ∧ j < 16) ∨ (36 ≤ j ∧ j < 66)) → g j = J (m + 1) j := fun j hj => by
    rw [eg j (by omega)]
    simp (disch := omega) only [u_one, rr_u, if_neg, if_pos, if_true]
  refine ⟨⟨?_, ?_, ?_⟩, ⟨?_, ?_, ?_, ?_, ?_, ?_⟩, ⟨?_, ?_, ?_⟩, ⟨?_, ?_, ?_, ?_⟩, rY_c hY h6 (eo 6 (by omega)) (fun j _ _ => eo j (by omega)) (fun q _ _ => ?_), fun i hi => ?_, fun k hk => ?_⟩
  rotate_left 16
  · simp (disch := omega) only [u_one, rr_u, if_neg, if_pos, if_true]
    exact er q (by omega) (by omega) (by omega)
  · rw [eg12, i12.2] at hi
    rw [eg (16 + i) (by omega)]
    by_cases d : i = tn (J (m + 1) 12)
    · rw [d]
      simp (disch := omega) only [u_one, rr_u, if_neg, if_pos, if_true]
    · simp (disch := omega) only [u_one, rr_u, if_neg, if_pos, if_true]
      rw [er _ (by omega) (by omega) (by omega)]
      exact hQ i (by omega)
  · rw [e7, i7.2] at hk
    by_cases d : k = n
    · rw [d]
      have w0 : g (66 + 15 * n + 0) = nI (e - s) := by
        rw [en 0 (by decide)]
        simp (disch := omega) only [u_one, rr_u, if_neg, if_pos, if_true]
      have w1 : ∀ j, j < e - s → (fun j => g (66 + 15 * n + (1 + j))) j = src j := fun j hj => by
        show g (66 + 15 * n + (1 + j)) = src j
        rw [en (1 + j) (by omega), if_neg (by omega), if_pos (by omega), Nat.add_sub_cancel_left]
      obtain ⟨p1, p2, p3⟩ := tot_s w1
      have wt : tn (g (66 + 15 * n + 0)) = e - s := by rw [w0, tn_nI (by omega)]
      refine ⟨⟨?_, ?_, ?_, ?_⟩, fun q hq => ?_, ?_, ?_, ?_, ?_, ?_⟩
      · show _ = g (66 + 15 * n + 0)
        rw [w0]
        simp (disch := omega) only [u_one, rr_u, if_neg, if_pos, if_true]
        exact f1
      · show _ = sumL (fun j => g (66 + 15 * n + (1 + j))) (tn (g (66 + 15 * n + 0)))
        rw [wt, p1]
        refine Eq.trans ?_ (f2.trans g1)
        simp (disch := omega) only [u_one, rr_u, if_neg, if_pos, if_true]
      · show _ = maxL (fun j => g (66 + 15 * n + (1 + j))) (tn (g (66 + 15 * n + 0)))
        rw [wt, p2]
        refine Eq.trans ?_ (f3.trans g2)
        simp (disch := omega) only [u_one, rr_u, if_neg, if_pos, if_true]
      · show _ = nI (lonL (fun j => g (66 + 15 * n + (1 + j))) (tn (g (66 + 15 * n + 0))))
        rw [wt, p3]
        refine Eq.trans ?_ (f4.trans (congrArg nI g3))
        simp (disch := omega) only [u_one, rr_u, if_neg, if_pos, if_true]
      · have hq : q < tn (g (66 + 15 * n + 0)) := hq
        rw [wt] at hq
        show _ = g (66 + 15 * n + (1 + q))
        have w1q : g (66 + 15 * n + (1 + q)) = src q := w1 q hq
        have hgq : ow_u I a 10 (J (m + 1) 7 + nI 1) f (s + q) = src q := hg q hq
        rw [w1q]
        simp (disch := omega) only [u_one, rr_u, if_neg, if_pos, if_true]
        rw [f6 q, if_pos hq]
        exact hgq
      · show _ = g (66 + 15 * n + 10)
        rw [en 10 (by decide)]
        simp (disch := omega) only [u_one, rr_u, if_neg, if_pos, if_true]
      · show _ = g (66 + 15 * n + 11)
        rw [en 11 (by decide)]
        simp (disch := omega) only [u_one, rr_u, if_neg, if_pos, if_true]
      · show _ = g (66 + 15 * n + 12)
        rw [en 12 (by decide)]
        simp (disch := omega) only [u_one, rr_u, if_neg, if_pos, if_true]
      · show _ = g (66 + 15 * n + 13)
        rw [en 13 (by decide)]
        simp (disch := omega) only [u_one, rr_u, if_neg, if_pos, if_true]
      · show _ = g (66 + 15 * n + 14)
        rw [en 14 (by decide)]
        simp (disch := omega) only [u_one, rr_u, if_neg, if_pos, if_true]
    · refine rb_c (hB k (by rw [hN]; omega)) (he9 k (by omega)) (fun j _ _ => ?_) (fun q _ => ?_) (fun w hw => ?_)
      · simp (disch := omega) only [u_one, rr_u, if_neg, if_pos, if_true]
        rw [er _ (by omega) (by omega) (by omega)]
      · simp (disch := omega) only [u_one, rr_u, if_neg, if_pos, if_true]
        rw [er _ (by omega) (by omega) (by omega)]
      · show g (66 + 15 * k + w) = J (m + 1) (66 + 15 * k + w)
        rw [eg _ (by omega)]
        simp (disch := omega) only [u_one, rr_u, if_neg, if_pos, if_true]
  all_goals (try (simp (disch := omega) only [u_one, rr_u, if_neg, if_pos, if_true, ea, er, eo, e7, eg12]; done))
  all_goals (try (simp (disch := omega) only [u_one, rr_u, if_neg, if_pos, if_true, ea, er, eo, e7, eg12]; assumption))
end RLJ
