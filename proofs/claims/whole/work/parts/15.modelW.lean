/-! pure rows of the reference: what its acts keep -/
theorem mdV_q {A : Nat → Int32} (hv : md_V A) (h8 : 0 ≤ A 8) : tn (A 12) < 20 := by
  have h2 := hv.2.2.1.2
  rw [md_V_eq] at hv
  have h1 := VV_qlt hv h8
  omega
theorem u_one {I : ow_I} {a k j : Nat} {x : Int32} : ow_u I a k x a j = if j = k then x else I a j := by
  by_cases h : j = k <;> simp [ow_u, h]
theorem V_row {m : Nat} {I : ow_I} (hv : md_V (I (m + 1))) {k : Nat} (x : Int32) (hk : k = 5 ∨ k = 11 ∨ k = 3) : md_V (ow_u I (m + 1) k x (m + 1)) := by
  rw [md_V_eq] at hv ⊢
  rw [ow_u_k _ _ _ _ (by omega), ow_u_k _ _ _ _ (by omega), ow_u_k _ _ _ _ (by omega), ow_u_k _ _ _ _ (by omega), ow_u_k _ _ _ _ (by omega), ow_u_k _ _ _ _ (by omega)]
  exact VV_congr hv (fun i _ => ow_u_k _ _ _ _ (by omega) _) (fun i _ => ow_u_k _ _ _ _ (by omega) _) (fun i _ => ow_u_k _ _ _ _ (by omega) _)
theorem V_close {m : Nat} {I : ow_I} (hv : md_V (I (m + 1))) (h8 : 0 ≤ I (m + 1) 8) : md_V (M_closeBarrel m I (m + 1)) := by
  have hb := mdV_8 hv h8
  have hq := mdV_q hv h8
  have h10 := mdV_10 hv
  rw [md_V_eq] at hv ⊢
  simp only [M_closeBarrel, lt_eq]
  split
  · simp only [M_turnBack, lt_eq]
    split
    · simp (disch := omega) only [lt_eq, u_one, M_putBarrel, if_neg, if_pos]
      refine VV_congr (VV_shut hv h8 (x := nI 3) (by decide) (fun k _ => rfl)) (fun i hi => ?_) (fun i hi => ?_) (fun i hi => ?_)
      · simp (disch := omega) only [if_neg]
      · by_cases c : i = tn (I (m + 1) 8)
        · simp (disch := omega) only [if_neg, if_pos c]
          simp [c]
        · simp (disch := omega) only [if_neg]
      · simp (disch := omega) only [if_neg]
    · simp (disch := omega) only [M_enqueue, lt_eq, u_one, M_putBarrel, if_neg, if_pos]
      refine VV_congr (VV_back hv h8 rfl (fun k _ => rfl) (fun k _ => rfl)) (fun i hi => ?_) (fun i hi => ?_) (fun i hi => ?_)
      · by_cases c : i = tn (I (m + 1) 12)
        · simp [c]
        · simp (disch := omega) only [if_neg]
      · by_cases c : i = tn (I (m + 1) 8)
        · simp [c, nI_0]
        · simp (disch := omega) only [if_neg]
      · simp (disch := omega) only [if_neg]
  · rename_i hl
    have hl := h10 (i_nlt hl)
    simp (disch := omega) only [M_sell, lt_eq, u_one, M_putBarrel, M_put, if_neg, if_pos]
    refine VV_congr (VV_shut hv h8 (x := nI 2) (by decide) (fun k _ => rfl)) (fun i hi => ?_) (fun i hi => ?_) (fun i hi => ?_)
    · simp (disch := omega) only [if_neg]
    · by_cases c : i = tn (I (m + 1) 8)
      · simp [c]
      · simp (disch := omega) only [if_neg]
    · simp (disch := omega) only [if_neg]
/-- the queue without the barrel at p -/
theorem dq34 {m b p : Nat} {A : Nat → Int32} : ∀ (n : Nat) (I : ow_I) (j : Nat), p ≤ j → tn (I (m + 1) 12) ≤ 20 → tn (I (m + 1) 12) - j < n →
   (∀ k, k < 16 + j → I (m + 1) k = if 16 + p ≤ k then A (k + 1) else A k) → (∀ k, 16 + j ≤ k → I (m + 1) k = A k) →
   ∀ k, M_dequeue_L34 m b n I j (m + 1) k = if 16 + p ≤ k ∧ k < 16 + max (tn (I (m + 1) 12)) j then A (k + 1) else A k := by
  intro n
  induction n with
  | zero => intro I j hp h20 h; omega
  | succ n ih =>
    intro I j hp h20 h h1 h2 k
    simp only [M_dequeue_L34, lt_eq]
    split
    · rename_i hj
      rcases Nat.lt_or_ge k (16 + j) with c | c
      · rw [h1 k c]
        by_cases d : 16 + p ≤ k
        · rw [if_pos d, if_pos (by omega)]
        · rw [if_neg d, if_neg (by omega)]
      · rw [h2 k c, if_neg (by omega)]
    · rename_i hj
      have e12 : ow_u I (m + 1) (16 + j) (I (m + 1) (16 + j + 1)) (m + 1) 12 = I (m + 1) 12 := ow_u_k _ _ _ _ (by omega) _
      rw [ih _ (j + 1) (by omega) (by rw [e12]; exact h20) (by rw [e12]; omega), e12, show max (tn (I (m + 1) 12)) (j + 1) = max (tn (I (m + 1) 12)) j by omega]
      · intro k hk
        rw [u_one]
        split
        · rename_i e
          rw [e, if_pos (by omega), h2 _ (by omega)]
        · exact h1 k (by omega)
      · intro k hk
        rw [u_one, if_neg (by omega)]
        exact h2 k (by omega)
theorem dq2 {m b p : Nat} : ∀ (n : Nat) (I : ow_I) (i : Nat), i ≤ p → p - i < n → 0 ≤ I (m + 1) 12 → tn (I (m + 1) 12) ≤ 20 → p < tn (I (m + 1) 12) → I (m + 1) (16 + p) = nI b → (∀ j, j < p → ¬ I (m + 1) (16 + j) = nI b) →
   ∀ k, M_dequeue_L2 m b n I i (m + 1) k = if k = 12 then nI (tn (I (m + 1) 12) - 1) else if 16 + p ≤ k ∧ k < 16 + (tn (I (m + 1) 12) - 1) then I (m + 1) (k + 1) else I (m + 1) k := by
  intro n
  induction n with
  | zero => intro I i h1 h2; omega
  | succ n ih =>
    intro I i h1 h2 h0 h20 hp hb hn k
    simp only [M_dequeue_L2, lt_eq]
    split
    · rename_i c
      have e : i = p := by
        rcases Nat.lt_or_ge i p with z | z
        · exact absurd c (hn i z)
        · omega
      subst e
      have e12 : I (m + 1) 12 - nI 1 = nI (tn (I (m + 1) 12) - 1) := by
        rw [← pk_sub (by omega), nI_tn h0]
      have r := @dq34 m b i (fun k => if k = 12 then nI (tn (I (m + 1) 12) - 1) else I (m + 1) k) 21 (ow_u I (m + 1) 12 (nI (tn (I (m + 1) 12) - 1))) i (Nat.le_refl _) (by rw [ow_u_s, tn_nI (by omega)]; omega) (by rw [ow_u_s, tn_nI (by omega)]; omega) (fun k hk => by rw [u_one, if_neg (show ¬ 16 + i ≤ k by omega)]) (fun k hk => by rw [u_one]) k
      rw [e12, r, ow_u_s, tn_nI (by omega), show max (tn (I (m + 1) 12) - 1) i = tn (I (m + 1) 12) - 1 by omega]
      by_cases d : 16 + i ≤ k ∧ k < 16 + (tn (I (m + 1) 12) - 1)
      · simp only [if_pos d]
        rw [if_neg (by omega), if_neg (by omega)]
      · simp only [if_neg d]
    · rename_i c
      have : i ≠ p := fun z => c (by rw [z]; exact hb)
      exact ih I (i + 1) (by omega) (by omega) h0 h20 hp hb hn k
/-- what a dequeuing leaves -/
theorem dq_cells {m b p : Nat} {I : ow_I} (h0 : 0 ≤ I (m + 1) 12) (h20 : tn (I (m + 1) 12) ≤ 20) (hp : p < tn (I (m + 1) 12)) (hb : I (m + 1) (16 + p) = nI b) (hn : ∀ j, j < p → ¬ I (m + 1) (16 + j) = nI b) (k : Nat) :
   M_dequeue m b I (m + 1) k = if k = 12 then nI (tn (I (m + 1) 12) - 1) else if 16 + p ≤ k ∧ k < 16 + (tn (I (m + 1) 12) - 1) then I (m + 1) (k + 1) else I (m + 1) k :=
  dq2 21 I 0 (by omega) (by omega) h0 h20 hp hb hn k
theorem V_openFirst {m : Nat} {I : ow_I} (hv : md_V (I (m + 1))) (h8 : ¬ 0 ≤ I (m + 1) 8) : md_V (M_openFirst m I (m + 1)) := by
  simp only [M_openFirst, lt_eq]
  split
  · exact hv
  · rename_i hne
    have h12 := hv.2.2.2.2.2.1
    have h0 := mdV_q0 hv (by omega)
    rw [md_V_eq] at hv ⊢
    have d := @dq_cells m (tn (I (m + 1) 16)) 0 I h12.1 h12.2 (by omega) (nI_tn h0.1).symm (fun j hj => by omega)
    simp (disch := omega) only [lt_eq, u_one, M_putBarrel, if_neg, ↓reduceIte, d]
    refine VV_congr (VV_deq hv (p := 0) (b := tn (I (m + 1) 16)) (by omega) (nI_tn h0.1).symm h0.2 (x := nI 1) (by decide) rfl (Q' := fun i => if 16 + 0 ≤ 16 + i ∧ 16 + i < 16 + (tn (I (m + 1) 12) - 1) then I (m + 1) (16 + i + 1) else I (m + 1) (16 + i)) (fun i hi => by rw [if_pos (by omega), if_neg (by omega)]; rfl) (fun k hk => rfl) (Or.inr ⟨rfl, rfl⟩)) (fun i hi => ?_) (fun i hi => ?_) (fun i hi => ?_)
    · simp (disch := omega) only [if_neg]
    · by_cases c : i = tn (I (m + 1) 16)
      · simp [c]
      · simp (disch := omega) only [if_neg]
    · simp (disch := omega) only [if_neg]
theorem M_thinker_rng {m : Nat} {I : ow_I} (hv : md_V (I (m + 1))) (h : 0 ≤ M_thinker m I) : tn (M_thinker m I) < tn (I (m + 1) 6) := by
  have key : ∀ (n i : Nat), 1 ≤ i → 0 ≤ M_thinker_L14 m n I i → tn (M_thinker_L14 m n I i) < tn (I (m + 1) 6) := by
    intro n
    induction n with
    | zero => intro i _ _; have := hv.2.1.2.1; simp only [M_thinker_L14]; show tn 0 < _; rw [show tn 0 = 0 from rfl]; omega
    | succ n ih =>
      intro i h1
      simp only [M_thinker_L14]
      split
      · intro h; exact absurd h i_m1
      · have t := md_th hv h1 (by omega)
        split
        · split
          · exact ih _ (by omega)
          · intro _
            rw [nI_tn t.1]
            exact t.2
        · exact ih _ (by omega)
  revert h
  unfold M_thinker
  split
  · exact key 8 1 (by omega)
  · intro h; exact absurd h i_m1
theorem V_nodNow {m b : Nat} {I : ow_I} (hv : md_V (I (m + 1))) (h8 : 0 ≤ I (m + 1) 8) (hb : b < tn (I (m + 1) 6)) : md_V ((M_nodNow m b I).2 (m + 1)) := by
  have h6 := hv.2.1.2.2
  rw [md_V_eq] at hv ⊢
  simp (disch := omega) only [M_nodNow, lt_eq, u_one, M_put, if_neg, if_pos]
  refine VV_congr (VV_lead hv h8 hb) (fun i hi => ?_) (fun i hi => ?_) (fun i hi => ?_)
  · simp (disch := omega) only [if_neg]
  · simp (disch := omega) only [if_neg]
  · simp (disch := omega) only [if_neg]
theorem i_lt0 {x : Int32} (h : ¬ x < 0) : 0 ≤ x := i_nlt h
