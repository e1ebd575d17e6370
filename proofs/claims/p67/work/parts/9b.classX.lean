/-! the market's acts leave all rows outside of it as they were -/
section KRR
variable {a b : Nat} {I : ow_I}
theorem rr_deqL {x : Int32} (h : b ≠ a) (h4 : b ≠ a + 4) : ∀ (n : Nat) (I : ow_I) (k i : Nat), K_dequeue_L4 a x n I k i b = I b := by
  intro n
  induction n with
  | zero => intro I k i; rfl
  | succ n ih =>
    intro I k i
    simp only [K_dequeue_L4, lt_eq]
    (repeat' split) <;> simp only [ih, rr_u h, rr_u h4]
theorem rr_deq {x : Int32} (h : b ≠ a) (h4 : b ≠ a + 4) : K_dequeue a x I b = I b := by
  simp only [K_dequeue, rr_deqL h h4]
theorem rr_nod {x : Int32} (h : b < a ∨ a + 51 ≤ b) (hV : k_V a I) : K_takeNod a x I b = I b := by
  simp only [K_takeNod, lt_eq]
  split
  · rename_i q
    have h1 := ky_1 q
    have h8 := hV.1.2
    simp (disch := omega) only [rr_u]
  · rfl
theorem rr_open (h : b < a ∨ a + 51 ≤ b) (hV : k_V a I) : K_openFirst a I b = I b := by
  simp only [K_openFirst, lt_eq]
  split
  · rfl
  · rename_i q
    have h1 := (kq_1 hV q).2
    simp (disch := omega) only [rr_deq, rr_u]
theorem rr_close (h : b < a ∨ a + 51 ≤ b) (hV : k_V a I) : (K_closeBarrel a I).2 b = I b := by
  simp only [K_closeBarrel, lt_eq]
  split
  · rfl
  · rename_i q
    have h13 := (ko_1 hV q).2
    split
    · simp only [K_sendBack, lt_eq]
      split <;> simp (disch := omega) only [rr_keb, rr_kenq, rr_u]
    · rename_i q15
      have h15 := (kl_1 hV q15).2
      simp only [K_sell, lt_eq]
      simp (disch := omega) only [rr_keb, rr_u]
theorem rr_pass (h : b < a ∨ a + 51 ≤ b) (hV : k_V a I) : (K_passOneMinute a I).2 b = I b := by
  simp only [K_passOneMinute, lt_eq]
  have h1 : k_V a (ow_u I (a + 1) 2 (I (a + 1) 2 + nI 1)) := kV_t hV
  have e1 : ow_u I (a + 1) 2 (I (a + 1) 2 + nI 1) b = I b := rr_u (by omega)
  split
  · exact (rr_close h h1).trans e1
  · split
    · split
      · exact (rr_open h h1).trans e1
      · split
        · have h2 : k_V a (ow_u (ow_u I (a + 1) 2 (I (a + 1) 2 + nI 1)) a 16 (ow_u I (a + 1) 2 (I (a + 1) 2 + nI 1) a 16 + nI 1)) := kV_a h1 (by decide)
          have e2 : ow_u (ow_u I (a + 1) 2 (I (a + 1) 2 + nI 1)) a 16 (ow_u I (a + 1) 2 (I (a + 1) 2 + nI 1) a 16 + nI 1) b = I b := (rr_u (by omega)).trans e1
          split
          · split
            · exact (rr_close h h2).trans e2
            · exact (rr_close h h2).trans e2
          · exact e2
        · exact (rr_nod h h1).trans e1
    · exact e1
theorem rr_letL {n2 : Nat} (h : b < a ∨ a + 51 ≤ b) : ∀ (n : Nat) (I : ow_I) (c i : Nat), k_V a I → (K_letPass_L4 a n2 n I c i).2 b = I b := by
  intro n
  induction n with
  | zero => intro I c i _; rfl
  | succ n ih =>
    intro I c i hV
    simp only [K_letPass_L4, lt_eq]
    split
    · rfl
    · split
      · exact rr_u (by omega)
      · split
        · exact (ih _ _ _ (kV_pass hV)).trans (rr_pass h hV)
        · exact (ih _ _ _ (kV_pass hV)).trans (rr_pass h hV)
theorem rr_let {n2 : Nat} (h : b < a ∨ a + 51 ≤ b) (hV : k_V a I) : (K_letPass a n2 I).2 b = I b := by
  simp only [K_letPass]
  exact rr_letL h _ _ _ _ hV
theorem rr_kput {x c : Int32} (h : b < a ∨ a + 51 ≤ b) (hV : k_V a I) : K_putCoins a x c I b = I b := by
  simp only [K_putCoins, lt_eq]
  split
  · rename_i q
    have h1 := ky_1 q
    have h8 := hV.1.2
    simp (disch := omega) only [rr_u]
  · rfl
theorem rr_away {x : Int32} (h : b < a ∨ a + 51 ≤ b) (hV : k_V a I) : K_takeAway a x I b = I b := by
  simp only [K_takeAway, lt_eq]
  split
  · rename_i q
    have h1 := kw_1 q
    have h8 := hV.2.1.2
    simp (disch := omega) only [rr_deq, rr_u]
  · rfl
theorem rr_cut {x e : Int32} (h : b < a ∨ a + 51 ≤ b) (hV : k_V a I) : (K_cut a x e I).2 b = I b := by
  simp only [K_cut, lt_eq]
  split
  · rename_i q
    have hc := kc_1 hV q
    have hx : tn x < 20 := by have := hV.2.1.2; omega
    dsimp only
    rw [rr_u (by omega), rr_bkf (by omega) (by omega), rr_tbar h hV.2.1.1]
  · rfl
end KRR
/-! the parser's commands keep natural numbers -/
section CMV
variable {p : Nat} {I : ow_I}
end CMV
