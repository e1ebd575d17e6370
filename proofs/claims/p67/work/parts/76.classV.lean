/-! the class's input, token and market: what keeps them well-formed -/
def in_R (f : Nat → Int32) : Prop := (0 ≤ f 1 ∧ tn (f 1) ≤ 500) ∧ (0 ≤ f 3 ∧ tn (f 3) ≤ 500) ∧ (0 ≤ f 4 ∧ tn (f 4) ≤ 500)
theorem in_o {u k : Nat} {x : Int32} {I : ow_I} (h : in_R (I u)) (hk : k ≠ 1 ∧ k ≠ 3 ∧ k ≠ 4) : in_R (ow_u I u k x u) := by
  unfold in_R
  rw [ow_u_k _ _ _ _ (Ne.symm hk.1), ow_u_k _ _ _ _ (Ne.symm hk.2.1), ow_u_k _ _ _ _ (Ne.symm hk.2.2)]
  exact h
theorem in_3 {u : Nat} {x : Int32} {I : ow_I} (h : in_R (I u)) (hx : 0 ≤ x ∧ tn x ≤ 500) : in_R (ow_u I u 3 x u) := by
  unfold in_R
  rw [ow_u_k _ _ _ _ (by decide), ow_u_s, ow_u_k _ _ _ _ (by decide)]
  exact ⟨h.1, hx, h.2.2⟩
theorem in_4 {u : Nat} {x : Int32} {I : ow_I} (h : in_R (I u)) (hx : 0 ≤ x ∧ tn x ≤ 500) : in_R (ow_u I u 4 x u) := by
  unfold in_R
  rw [ow_u_k _ _ _ _ (by decide), ow_u_s, ow_u_k _ _ _ _ (by decide)]
  exact ⟨h.1, h.2.1, hx⟩
theorem in_1 {u : Nat} {x : Int32} {I : ow_I} (h : in_R (I u)) (hx : 0 ≤ x ∧ tn x ≤ 500) : in_R (ow_u I u 1 x u) := by
  unfold in_R
  rw [ow_u_s, ow_u_k _ _ _ _ (by decide), ow_u_k _ _ _ _ (by decide)]
  exact ⟨hx, h.2⟩
theorem in_i4 {u : Nat} {I : ow_I} (h : in_R (I u)) (q : ¬ tn (I u 1) ≤ tn (I u 4)) : 0 ≤ I u 4 + nI 1 ∧ tn (I u 4 + nI 1) ≤ 500 := by
  have t := tn_inc h.2.2.1 (by have := h.1.2; omega)
  exact ⟨t.1, by rw [t.2]; have := h.1.2; omega⟩
theorem in_L93 {u : Nat} : ∀ (n : Nat) (I : ow_I) (r : Nat), in_R (I u) → in_R (U_advance_L93 u n I r u) := by
  intro n
  induction n with
  | zero => intro I r h; exact h
  | succ n ih =>
    intro I r h
    simp only [U_advance_L93, lt_eq]
    split
    · exact h
    · rename_i q
      have h4 := in_i4 h q
      have k5 : ∀ x : Int32, in_R (ow_u (ow_u I u 5 x) u 4 (ow_u I u 5 x u 4 + nI 1) u) := fun x => in_4 (in_o h (by decide)) (by rw [ow_u_k _ _ _ _ (by decide)]; exact h4)
      have k4 : in_R (ow_u I u 4 (I u 4 + nI 1) u) := in_4 h h4
      (repeat' split) <;> first | exact h | exact ih _ _ k4 | exact ih _ _ (k5 _)
theorem in_L8 {u : Nat} : ∀ (n : Nat) (I : ow_I), in_R (I u) → in_R (U_advance_L8 u n I u) := by
  intro n
  induction n with
  | zero => intro I h; exact h
  | succ n ih =>
    intro I h
    simp only [U_advance_L8, lt_eq]
    have k : ∀ x : Int32, in_R (ow_u (ow_u (ow_u I u 4 (I u 3)) u 2 x) u 5 (nI 0) u) := fun x => in_o (in_o (in_4 h h.2.1) (by decide)) (by decide)
    split
    · (repeat' split) <;> exact in_L93 _ _ _ (k _)
    · rename_i q
      have t := tn_inc h.2.1.1 (by have := h.1.2; omega)
      split
      · exact ih _ (in_3 h ⟨t.1, by rw [t.2]; have := h.1.2; omega⟩)
      · (repeat' split) <;> exact in_L93 _ _ _ (k _)
theorem in_adv {u : Nat} {I : ow_I} (h : in_R (I u)) : in_R (U_advance u I u) := by
  simp only [U_advance, lt_eq]
  exact in_L8 _ _ (in_3 h h.2.2)
theorem in_restart {u : Nat} {I : ow_I} (h : in_R (I u)) : in_R (U_restart u I u) := by
  simp only [U_restart, lt_eq]
  exact in_adv (in_4 h (by decide))
theorem rr_L93 {u b : Nat} (hb : b ≠ u) : ∀ (n : Nat) (I : ow_I) (r : Nat), U_advance_L93 u n I r b = I b := by
  intro n
  induction n with
  | zero => intro I r; rfl
  | succ n ih =>
    intro I r
    simp only [U_advance_L93, lt_eq]
    (repeat' split) <;> simp only [ih, rr_u hb]
theorem rr_L8 {u b : Nat} (hb : b ≠ u) : ∀ (n : Nat) (I : ow_I), U_advance_L8 u n I b = I b := by
  intro n
  induction n with
  | zero => intro I; rfl
  | succ n ih =>
    intro I
    simp only [U_advance_L8, lt_eq]
    (repeat' split) <;> simp only [ih, rr_L93 hb, rr_u hb]
theorem rr_adv {u b : Nat} {I : ow_I} (hb : b ≠ u) : U_advance u I b = I b := by
  simp only [U_advance, lt_eq, rr_L8 hb, rr_u hb]
theorem rr_restart {u b : Nat} {I : ow_I} (hb : b ≠ u) : U_restart u I b = I b := by
  simp only [U_restart, lt_eq, rr_adv hb, rr_u hb]
/-! the market -/
theorem kV_row {a b k : Nat} {x : Int32} {I : ow_I} (hV : k_V a I) (hb : b ≠ a) (h4 : b ≠ a + 4) (hB : (∀ i, i < 20 → b ≠ a + 11 + 2 * i) ∨ k ≠ 1) : k_V a (ow_u I b k x) := by
  obtain ⟨h1, h2, h3, h4', h5, h6, h7⟩ := hV
  have e : ow_u I b k x a = I a := rr_u (Ne.symm hb)
  have e4 : ow_u I b k x (a + 4) = I (a + 4) := rr_u (Ne.symm h4)
  refine ⟨by rw [e]; exact h1, by rw [e]; exact h2, by rw [e]; exact h3, by rw [e]; exact h4', by rw [e]; exact h5, by rw [e, e4]; exact h6, fun j hj => ?_⟩
  rcases hB with hB | hk
  · rw [rr_u (Ne.symm (hB j hj))]; exact h7 j hj
  · rw [ow_u_k _ _ _ _ (Ne.symm hk)]; exact h7 j hj
theorem kV_r {a : Nat} {I J : ow_I} (hV : k_V a I) (h8 : 0 ≤ J a 8 ∧ tn (J a 8) ≤ 6) (h10 : 0 ≤ J a 10 ∧ tn (J a 10) ≤ 20) (h12 : 0 ≤ J a 12 ∧ tn (J a 12) ≤ tn (I a 12)) (h13 : J a 13 = -1 ∨ (0 ≤ J a 13 ∧ tn (J a 13) < 20)) (h15 : J a 15 = -1 ∨ (0 ≤ J a 15 ∧ tn (J a 15) < 6)) (hq : ∀ b, b ≠ a → J b = I b) : k_V a J := by
  obtain ⟨-, -, h3, -, -, h6, h7⟩ := hV
  refine ⟨h8, h10, ⟨h12.1, by omega⟩, h13, h15, fun i hi => ?_, fun j hj => ?_⟩
  · rw [hq (a + 4) (by omega)]; exact h6 i (by omega)
  · rw [hq _ (by omega)]; exact h7 j hj
theorem kV_a {a k : Nat} {x : Int32} {I : ow_I} (hV : k_V a I) (hk : k ≠ 8 ∧ k ≠ 10 ∧ k ≠ 12 ∧ k ≠ 13 ∧ k ≠ 15) : k_V a (ow_u I a k x) := by
  have e : ∀ j, j ≠ k → ow_u I a k x a j = I a j := fun j hj => ow_u_k _ _ _ _ hj _
  obtain ⟨h1, h2, h3, h4, h5, h6⟩ := id hV
  refine kV_r hV ?_ ?_ ?_ ?_ ?_ (fun b hb => rr_u hb)
  · rw [e 8 (Ne.symm hk.1)]; exact h1
  · rw [e 10 (Ne.symm hk.2.1)]; exact h2
  · rw [e 12 (Ne.symm hk.2.2.1)]; exact ⟨h3.1, Nat.le_refl _⟩
  · rw [e 13 (Ne.symm hk.2.2.2.1)]; exact h4
  · rw [e 15 (Ne.symm hk.2.2.2.2)]; exact h5
theorem kV_8 {a : Nat} {x : Int32} {I : ow_I} (hV : k_V a I) (hx : 0 ≤ x ∧ tn x ≤ 6) : k_V a (ow_u I a 8 x) := by
  obtain ⟨h1, h2, h3, h4, h5, h6⟩ := id hV
  refine kV_r hV (by rw [ow_u_s]; exact hx) ?_ ?_ ?_ ?_ (fun b hb => rr_u hb) <;> rw [ow_u_k _ _ _ _ (by decide)]
  · exact h2
  · exact ⟨h3.1, Nat.le_refl _⟩
  · exact h4
  · exact h5
theorem kV_10 {a : Nat} {x : Int32} {I : ow_I} (hV : k_V a I) (hx : 0 ≤ x ∧ tn x ≤ 20) : k_V a (ow_u I a 10 x) := by
  obtain ⟨h1, h2, h3, h4, h5, h6⟩ := id hV
  refine kV_r hV ?_ (by rw [ow_u_s]; exact hx) ?_ ?_ ?_ (fun b hb => rr_u hb) <;> rw [ow_u_k _ _ _ _ (by decide)]
  · exact h1
  · exact ⟨h3.1, Nat.le_refl _⟩
  · exact h4
  · exact h5
theorem kV_12 {a : Nat} {x : Int32} {I : ow_I} (hV : k_V a I) (hx : 0 ≤ x ∧ tn x ≤ tn (I a 12)) : k_V a (ow_u I a 12 x) := by
  obtain ⟨h1, h2, h3, h4, h5, h6⟩ := id hV
  refine kV_r hV ?_ ?_ (by rw [ow_u_s]; exact hx) ?_ ?_ (fun b hb => rr_u hb) <;> rw [ow_u_k _ _ _ _ (by decide)]
  · exact h1
  · exact h2
  · exact h4
  · exact h5
theorem kV_13 {a : Nat} {x : Int32} {I : ow_I} (hV : k_V a I) (hx : x = -1 ∨ (0 ≤ x ∧ tn x < 20)) : k_V a (ow_u I a 13 x) := by
  obtain ⟨h1, h2, h3, h4, h5, h6⟩ := id hV
  refine kV_r hV ?_ ?_ ?_ (by rw [ow_u_s]; exact hx) ?_ (fun b hb => rr_u hb) <;> rw [ow_u_k _ _ _ _ (by decide)]
  · exact h1
  · exact h2
  · exact ⟨h3.1, Nat.le_refl _⟩
  · exact h5
theorem kV_15 {a : Nat} {x : Int32} {I : ow_I} (hV : k_V a I) (hx : x = -1 ∨ (0 ≤ x ∧ tn x < 6)) : k_V a (ow_u I a 15 x) := by
  obtain ⟨h1, h2, h3, h4, h5, h6⟩ := id hV
  refine kV_r hV ?_ ?_ ?_ ?_ (by rw [ow_u_s]; exact hx) (fun b hb => rr_u hb) <;> rw [ow_u_k _ _ _ _ (by decide)]
  · exact h1
  · exact h2
  · exact ⟨h3.1, Nat.le_refl _⟩
  · exact h4
theorem kV_eb {a : Nat} {I : ow_I} (hV : k_V a I) : k_V a (K_endBidding a I) := by
  simp only [K_endBidding, lt_eq]
  exact kV_a (kV_15 (kV_a (kV_13 hV (Or.inl rfl)) (by decide)) (Or.inl rfl)) (by decide)
theorem kV_bar {a k : Nat} {I J : ow_I} (hk : k < 20) (hV : k_V a I) (h : ∀ c, c ≠ a + 11 + 2 * k → c ≠ a + 11 + 2 * k + 1 → J c = I c) (h1 : 0 ≤ J (a + 11 + 2 * k) 1 ∧ tn (J (a + 11 + 2 * k) 1) ≤ 9) : k_V a J := by
  have e := h a (by omega) (by omega)
  have e4 := h (a + 4) (by omega) (by omega)
  obtain ⟨q1, q2, q3, q4, q5, q6, q7⟩ := hV
  refine ⟨by rw [e]; exact q1, by rw [e]; exact q2, by rw [e]; exact q3, by rw [e]; exact q4, by rw [e]; exact q5, by rw [e, e4]; exact q6, fun j hj => ?_⟩
  by_cases hjk : j = k
  · rw [hjk]; exact h1
  · rw [h _ (by omega) (by omega)]; exact q7 j hj
theorem bf_L {b f s e : Nat} : ∀ (n : Nat) (I : ow_I) (i : Nat), 0 ≤ I b 1 → tn (I b 1) ≤ 9 → 0 ≤ B_fill_L7 b f s e n I i b 1 ∧ tn (B_fill_L7 b f s e n I i b 1) ≤ 9 := by
  intro n
  induction n with
  | zero => intro I i h h9; exact ⟨h, h9⟩
  | succ n ih =>
    intro I i h h9
    simp only [B_fill_L7, lt_eq]
    split
    · exact ⟨h, h9⟩
    · split
      · exact ⟨h, h9⟩
      · split
        · exact ⟨h, h9⟩
        · exact ih _ _ (bae_1 h h9).1 (bae_1 h h9).2
theorem bf_1 {b f s e : Nat} {I : ow_I} : 0 ≤ B_fill b f s e I b 1 ∧ tn (B_fill b f s e I b 1) ≤ 9 := by
  simp only [B_fill, lt_eq]
  exact bf_L _ _ _ (by rw [beo_1]; decide) (by rw [beo_1]; decide)
theorem kV_enq {a : Nat} {x : Int32} {I : ow_I} (hV : k_V a I) (hx : 0 ≤ x ∧ tn x < 20) : k_V a (K_enqueue a x I) := by
  simp only [K_enqueue, lt_eq]
  split
  · exact hV
  · rename_i q
    obtain ⟨q1, q2, q3, q4, q5, q6, q7⟩ := hV
    have t := tn_inc q3.1 (by omega)
    have e : ow_u I (a + 4) (tn (I a 12)) x a = I a := rr_u (by omega)
    have e12 : ow_u (ow_u I (a + 4) (tn (I a 12)) x) a 12 (ow_u I (a + 4) (tn (I a 12)) x a 12 + nI 1) a 12 = I a 12 + nI 1 := by rw [ow_u_s, e]
    have ej : ∀ j, j ≠ 12 → ow_u (ow_u I (a + 4) (tn (I a 12)) x) a 12 (ow_u I (a + 4) (tn (I a 12)) x a 12 + nI 1) a j = I a j := fun j hj => by rw [ow_u_k _ _ _ _ hj, e]
    refine ⟨by rw [ej 8 (by decide)]; exact q1, by rw [ej 10 (by decide)]; exact q2, by rw [e12]; exact ⟨t.1, by rw [t.2]; omega⟩, by rw [ej 13 (by decide)]; exact q4, by rw [ej 15 (by decide)]; exact q5, ?_, ?_⟩
    · rw [e12, rr_u (show a + 4 ≠ a by omega), t.2]
      intro i hi
      by_cases hq : i = tn (I a 12)
      · rw [hq, ow_u_s]; exact hx
      · rw [ow_u_k _ _ _ _ hq]; exact q6 i (by omega)
    · intro j hj
      rw [rr_u (by omega), rr_u (by omega)]
      exact q7 j hj
theorem kV_tbuy {a : Nat} {p s f : Int32} {I : ow_I} (hV : k_V a I) : k_V a (K_takeBuyer a p s f I) := by
  simp only [K_takeBuyer, lt_eq]
  split
  · exact hV
  · rename_i q
    have t := tn_inc hV.1.1 (by omega)
    have e : Y_begin (a + 5 + tn (I a 8)) p s f I a = I a := rr_ybg (by omega)
    have h1 : k_V a (Y_begin (a + 5 + tn (I a 8)) p s f I) := by
      simp only [Y_begin, lt_eq]
      exact kV_row (kV_row (kV_row (kV_row (kV_row hV (by omega) (by omega) (Or.inl fun i _ => by omega)) (by omega) (by omega) (Or.inl fun i _ => by omega)) (by omega) (by omega) (Or.inl fun i _ => by omega)) (by omega) (by omega) (Or.inl fun i _ => by omega)) (by omega) (by omega) (Or.inl fun i _ => by omega)
    exact kV_a (kV_8 h1 (by rw [e]; exact ⟨t.1, by rw [t.2]; omega⟩)) (by decide)
theorem kV_tbar {a f s e : Nat} {r : Int32} {I : ow_I} (hV : k_V a I) : k_V a (K_takeBarrel a r f s e I).2 := by
  simp only [K_takeBarrel, lt_eq]
  split
  · rename_i q
    have hr := kr_1 q hV.2.1.1
    have t := tn_inc hV.2.1.1 (by omega)
    have h1 : k_V a (ow_u I a 10 (I a 10 + nI 1)) := kV_10 hV ⟨t.1, by rw [t.2]; omega⟩
    have h2 : k_V a (B_fill (a + 11 + 2 * tn (I a 10)) f s e (ow_u I a 10 (I a 10 + nI 1))) := kV_bar hr h1 (fun c hc hc1 => rr_bf hc hc1) bf_1
    have h3 : k_V a (B_beginWaiting (a + 11 + 2 * tn (I a 10)) r (B_fill (a + 11 + 2 * tn (I a 10)) f s e (ow_u I a 10 (I a 10 + nI 1)))) := by
      refine kV_bar hr h2 (fun c hc hc1 => rr_bbw hc) ?_
      have e1 : B_beginWaiting (a + 11 + 2 * tn (I a 10)) r (B_fill (a + 11 + 2 * tn (I a 10)) f s e (ow_u I a 10 (I a 10 + nI 1))) (a + 11 + 2 * tn (I a 10)) 1 = B_fill (a + 11 + 2 * tn (I a 10)) f s e (ow_u I a 10 (I a 10 + nI 1)) (a + 11 + 2 * tn (I a 10)) 1 := by
        simp (disch := decide) only [B_beginWaiting, lt_eq, ow_u_k]
      rw [e1]
      exact bf_1
    exact kV_enq h3 (by rw [nI_tn hV.2.1.1]; exact ⟨hV.2.1.1, hr⟩)
  · exact hV
theorem kV_empty {a : Nat} {I : ow_I} (hV : k_V a I) : k_V a (K_beginEmpty a I) := by
  simp only [K_beginEmpty, lt_eq]
  exact kV_eb (kV_12 (kV_10 (kV_8 (kV_a (kV_a (kV_a (kV_row hV (by omega) (by omega) (Or.inl fun i _ => by omega)) (by decide)) (by decide)) (by decide)) (by decide)) (by decide)) (by rw [tn_nI (by decide)]; exact ⟨by decide, Nat.zero_le _⟩))
