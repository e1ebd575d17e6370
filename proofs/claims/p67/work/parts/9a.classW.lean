/-! the market: its acts keep it well-formed -/
theorem kV_q4 {a k : Nat} {x : Int32} {I : ow_I} (hV : k_V a I) (hx : 0 ≤ x ∧ tn x < 20) : k_V a (ow_u I (a + 4) k x) := by
  obtain ⟨q1, q2, q3, q4, q5, q6, q7⟩ := hV
  have e : ow_u I (a + 4) k x a = I a := rr_u (by omega)
  refine ⟨by rw [e]; exact q1, by rw [e]; exact q2, by rw [e]; exact q3, by rw [e]; exact q4, by rw [e]; exact q5, ?_, ?_⟩
  · rw [e]
    intro i hi
    by_cases h : i = k
    · subst h; rw [ow_u_s]; exact hx
    · rw [ow_u_k _ _ _ _ h]; exact q6 i hi
  · intro j hj
    rw [rr_u (by omega)]
    exact q7 j hj
theorem kV_deqL {a : Nat} {x : Int32} : ∀ (n : Nat) (I : ow_I) (k i : Nat), k_V a I → k ≤ i → i ≤ tn (I a 12) → k_V a (K_dequeue_L4 a x n I k i) := by
  intro n
  induction n with
  | zero => intro I k i h _ _; exact h
  | succ n ih =>
    intro I k i h hk hi
    have h12 := h.2.2.1.2
    simp only [K_dequeue_L4, lt_eq]
    split
    · exact kV_12 h ⟨nI_pos' (by omega), by rw [tn_nI (by omega)]; omega⟩
    · split
      · exact ih _ _ _ h (by omega) (by omega)
      · exact ih _ _ _ (kV_q4 h (h.2.2.2.2.2.1 i (by omega))) (by omega) (by rw [rr_u (show a ≠ a + 4 by omega)]; omega)
theorem kV_deq {a : Nat} {x : Int32} {I : ow_I} (hV : k_V a I) : k_V a (K_dequeue a x I) := by
  simp only [K_dequeue]
  exact kV_deqL _ _ _ _ hV (Nat.le_refl _) (Nat.zero_le _)
theorem kV_nod {a : Nat} {x : Int32} {I : ow_I} (hV : k_V a I) : k_V a (K_takeNod a x I) := by
  simp only [K_takeNod, lt_eq]
  split
  · rename_i q
    have h := ky_1 q
    have h8 := hV.1.2
    exact kV_row (kV_a (kV_15 (kV_a hV (by decide)) (Or.inr ⟨h.1, by omega⟩)) (by decide)) (by omega) (by omega) (Or.inl fun i _ => by omega)
  · exact hV
theorem kV_open {a : Nat} {I : ow_I} (hV : k_V a I) : k_V a (K_openFirst a I) := by
  simp only [K_openFirst, lt_eq]
  split
  · exact hV
  · rename_i q
    exact kV_deq (kV_row (kV_a (kV_13 hV (Or.inr (kq_1 hV q))) (by decide)) (by omega) (by omega) (Or.inr (by decide)))
theorem kV_close {a : Nat} {I : ow_I} (hV : k_V a I) : k_V a (K_closeBarrel a I).2 := by
  simp only [K_closeBarrel, lt_eq]
  split
  · exact hV
  · rename_i q
    have h13 := ko_1 hV q
    split
    · have h1 : k_V a (K_sendBack a (tn (I a 13)) I) := by
        simp only [K_sendBack, lt_eq]
        split
        · exact kV_row (kV_row hV (by omega) (by omega) (Or.inr (by decide))) (by omega) (by omega) (Or.inr (by decide))
        · exact kV_enq (kV_row (kV_row hV (by omega) (by omega) (Or.inr (by decide))) (by omega) (by omega) (Or.inr (by decide))) (by rw [nI_tn h13.1]; exact h13)
      exact kV_eb h1
    · rename_i q15
      have h15 := kl_1 hV q15
      have h1 : k_V a (K_sell a (a + 11 + 2 * tn (I a 13)) (a + 5 + tn (I a 15)) I) := by
        simp only [K_sell, lt_eq]
        have r : ∀ {J : ow_I} {x : Int32} {k : Nat}, k_V a J → k_V a (ow_u J (a + 5 + tn (I a 15)) k x) := fun h => kV_row h (by omega) (by omega) (Or.inl fun i _ => by omega)
        have b : ∀ {J : ow_I} {x : Int32} {k : Nat}, k ≠ 1 → k_V a J → k_V a (ow_u J (a + 11 + 2 * tn (I a 13)) k x) := fun hk h => kV_row h (by omega) (by omega) (Or.inr hk)
        exact b (by decide) (b (by decide) (b (by decide) (kV_a (kV_a (r (r hV)) (by decide)) (by decide))))
      exact kV_eb h1
theorem kV_pass {a : Nat} {I : ow_I} (hV : k_V a I) : k_V a (K_passOneMinute a I).2 := by
  simp only [K_passOneMinute, lt_eq]
  have h1 : k_V a (ow_u I (a + 1) 2 (I (a + 1) 2 + nI 1)) := kV_t hV
  split
  · exact kV_close h1
  · split
    · split
      · exact kV_open h1
      · split
        · have h2 : k_V a (ow_u (ow_u I (a + 1) 2 (I (a + 1) 2 + nI 1)) a 16 (ow_u I (a + 1) 2 (I (a + 1) 2 + nI 1) a 16 + nI 1)) := kV_a h1 (by decide)
          split
          · split <;> exact kV_close h2
          · exact h2
        · exact kV_nod h1
    · exact h1
theorem kV_it {a : Nat} : ∀ (n : Nat) (I : ow_I), k_V a I → k_V a (k_it a n I) := by
  intro n
  induction n with
  | zero => intro I h; exact h
  | succ n ih => intro I h; exact ih _ (kV_pass h)
theorem kV_letL {a n2 : Nat} : ∀ (n : Nat) (I : ow_I) (c i : Nat), k_V a I → k_V a (K_letPass_L4 a n2 n I c i).2 := by
  intro n
  induction n with
  | zero => intro I c i h; exact h
  | succ n ih =>
    intro I c i h
    simp only [K_letPass_L4, lt_eq]
    split
    · exact h
    · split
      · exact kV_t h
      · split
        · exact ih _ _ _ (kV_pass h)
        · exact ih _ _ _ (kV_pass h)
theorem kV_let {a n2 : Nat} {I : ow_I} (hV : k_V a I) : k_V a (K_letPass a n2 I).2 := by
  simp only [K_letPass]
  exact kV_letL _ _ _ _ hV
theorem kV_put {a : Nat} {x c : Int32} {I : ow_I} (hV : k_V a I) : k_V a (K_putCoins a x c I) := by
  simp only [K_putCoins, lt_eq]
  split
  · rename_i q
    have h := ky_1 q
    have h8 := hV.1.2
    exact kV_a (kV_row hV (by omega) (by omega) (Or.inl fun i _ => by omega)) (by decide)
  · exact hV
theorem kV_away {a : Nat} {x : Int32} {I : ow_I} (hV : k_V a I) : k_V a (K_takeAway a x I) := by
  simp only [K_takeAway, lt_eq]
  split
  · exact kV_deq (kV_row hV (by omega) (by omega) (Or.inr (by decide)))
  · exact hV
theorem kV_cut {a : Nat} {x e : Int32} {I : ow_I} (hV : k_V a I) : k_V a (K_cut a x e I).2 := by
  simp only [K_cut, lt_eq]
  split
  · rename_i q
    have hc := kc_1 hV q
    have hx : tn x < 20 := by have := hV.2.1.2; omega
    have h1 := kV_tbar (r := i_max (((I (a + 11 + 2 * (tn x)) 5) * e) / (nI (tn (I (a + 11 + 2 * (tn x)) 1)))) (nI 1)) (f := (a + 11 + 2 * (tn x)) + 1) (s := (tn (I (a + 11 + 2 * (tn x)) 1)) - (tn e)) (e := tn (I (a + 11 + 2 * (tn x)) 1)) hV
    refine kV_row (kV_bar hx h1 (fun c h2 h3 => rr_bkf h2 h3) ?_) (by omega) (by omega) (Or.inr (by decide))
    simp only [B_keepFirst, lt_eq]
    exact bf_1
  · exact hV
/-! a copy -/
def er (x : Int32) : Prop := 0 ≤ x ∧ tn x ≤ 9
theorem bcp_1 {b o : Nat} {I : ow_I} (h : o ≠ b + 1) : B_copyFrom b o I b 1 = I o 1 := by
  have e : ow_cp I (o + 1) (b + 1) 9 o = I o := ow_cp_a h
  simp (disch := decide) only [B_copyFrom, lt_eq, ow_u_k, ow_u_s]
  rw [e]
def cp_V (a o : Nat) (I J : ow_I) : Prop := (∀ b, o ≤ b → b < o + 51 → J b = I b) ∧ J a 8 = I o 8 ∧ (∀ k, k < 20 → er (J (a + 11 + 2 * k) 1))
theorem cp_L108 {a o : Nat} {I : ow_I} (hO : k_V o I) (hd : o + 51 ≤ a ∨ a + 51 ≤ o) : ∀ (n : Nat) (J : ow_I) (i : Nat), cp_V a o I J → J a 10 = I o 10 → tn (I o 10) < n + i → i ≤ tn (I o 10) → k_V a (K_copyFrom_L108 a o n J i) := by
  intro n
  induction n with
  | zero => intro J i h h10 hn hi; omega
  | succ n ih =>
    intro J i h h10 hn hi
    simp only [K_copyFrom_L108, lt_eq]
    rw [h10]
    have ho := h.1 o (by omega) (by omega)
    have ho4 := h.1 (o + 4) (by omega) (by omega)
    obtain ⟨q1, q2, q3, q4, q5, q6, q7⟩ := hO
    split
    · have e1 : ∀ b, b ≠ a → b ≠ a + 4 → ∀ (x12 x13 x14 x15 x16 : Int32), ow_u (ow_u (ow_u (ow_u (ow_u (ow_cp J (o + 4) (a + 4) 20) a 12 x12) a 13 x13) a 14 x14) a 15 x15) a 16 x16 b = J b := fun b hb hb4 _ _ _ _ _ => by
        simp (disch := assumption) only [rr_u, ow_cp_a]
      have eo : ow_cp J (o + 4) (a + 4) 20 o = J o := ow_cp_a (by omega)
      refine ⟨?_, ?_, ?_, ?_, ?_, ?_, fun k hk => ?_⟩
      · simp (disch := decide) only [ow_u_k]
        rw [ow_cp_a (show a ≠ a + 4 by omega), h.2.1]; exact q1
      · simp (disch := decide) only [ow_u_k]
        rw [ow_cp_a (show a ≠ a + 4 by omega), h10]; exact q2
      · simp (disch := decide) only [ow_u_k, ow_u_s]
        rw [eo, ho]; exact q3
      · simp (disch := decide) only [ow_u_k, ow_u_s]
        rw [eo, ho]; exact q4
      · simp (disch := decide) only [ow_u_k, ow_u_s]
        rw [eo, ho]; exact q5
      · simp (disch := decide) only [ow_u_k, ow_u_s]
        rw [eo, ho]
        intro k hk
        simp (disch := omega) only [rr_u]
        rw [ow_cp_in (by omega), ho4]
        exact q6 k hk
      · simp (disch := omega) only [rr_u]
        rw [ow_cp_a (by omega)]
        exact h.2.2 k hk
    · rename_i q
      refine ih _ _ ⟨fun b h1 h2 => ?_, ?_, fun k hk => ?_⟩ ?_ (by omega) (by omega)
      · rw [rr_bcp (by omega) (by omega)]; exact h.1 b h1 h2
      · rw [rr_bcp (by omega) (by omega)]; exact h.2.1
      · by_cases hk2 : k = i
        · subst hk2
          rw [bcp_1 (by omega), h.1 _ (by omega) (by omega)]
          exact q7 k hk
        · rw [rr_bcp (by omega) (by omega)]; exact h.2.2 k hk
      · rw [rr_bcp (by omega) (by omega)]; exact h10
theorem cp_L69 {a o : Nat} {I : ow_I} (hO : k_V o I) (hd : o + 51 ≤ a ∨ a + 51 ≤ o) : ∀ (n : Nat) (J : ow_I) (i : Nat), cp_V a o I J → tn (I o 8) < n + i → i ≤ tn (I o 8) → k_V a (K_copyFrom_L69 a o n J i) := by
  intro n
  induction n with
  | zero => intro J i h hn hi; omega
  | succ n ih =>
    intro J i h hn hi
    simp only [K_copyFrom_L69, lt_eq]
    rw [h.2.1]
    have ho := h.1 o (by omega) (by omega)
    have h8 := hO.1.2
    have h10 := hO.2.1.2
    split
    · refine cp_L108 hO hd _ _ _ ⟨fun b h1 h2 => ?_, ?_, fun k hk => ?_⟩ ?_ (by omega) (by omega)
      · rw [rr_u (by omega)]; exact h.1 b h1 h2
      · rw [ow_u_k _ _ _ _ (by decide)]; exact h.2.1
      · rw [rr_u (by omega)]; exact h.2.2 k hk
      · rw [ow_u_s, ho]
    · refine ih _ _ ⟨fun b h1 h2 => ?_, ?_, fun k hk => ?_⟩ (by omega) (by omega)
      · rw [rr_ycp (by omega)]; exact h.1 b h1 h2
      · rw [rr_ycp (by omega)]; exact h.2.1
      · rw [rr_ycp (by omega)]; exact h.2.2 k hk
theorem kV_cp {a o : Nat} {I : ow_I} (hO : k_V o I) (hV : k_V a I) (hd : o + 51 ≤ a ∨ a + 51 ≤ o) : k_V a (K_copyFrom a o I) := by
  simp only [K_copyFrom, lt_eq]
  have h8 := hO.1.2
  refine cp_L69 hO hd _ _ _ ⟨fun b h1 h2 => ?_, ?_, fun k hk => ?_⟩ (by omega) (by omega)
  · simp (disch := omega) only [rr_u, rr_tcp]
  · rw [ow_u_s]
    simp (disch := omega) only [rr_u, rr_tcp]
  · simp (disch := omega) only [rr_u, rr_tcp]
    exact hV.2.2.2.2.2.2 k hk
