/-! the reference's texts: commands -/
theorem rr_rest {m a : Nat} {c : Int32} {I : ow_I} (h : a ≠ m) (h4 : a ≠ m + 4) : (M_failsAtRest m c I).2 a = I a := by
  simp only [M_failsAtRest, M_failsAtBuyerNumber, M_failsAtBarrelNumber, lt_eq]
  (repeat' split) <;> simp only [rr_num h h4]
theorem fr_rest {m k : Nat} {c : Int32} {I : ow_I} (h : k < 6 ∨ 11 < k) : (M_failsAtRest m c I).2 m k = I m k := by
  simp only [M_failsAtRest, M_failsAtBuyerNumber, M_failsAtBarrelNumber, lt_eq]
  (repeat' split) <;> simp only [fr_num h]
theorem W_rest {m : Nat} {c : Int32} {I : ow_I} (hw : md_W m I) : md_W m (M_failsAtRest m c I).2 := by
  simp only [M_failsAtRest, M_failsAtBuyerNumber, M_failsAtBarrelNumber, lt_eq]
  (repeat' split) <;> (repeat (with_reducible first | exact hw | refine W_num ?_ | refine md_WT ?_))
theorem i32_le {x : Int32} {a b : Nat} (hb : b < 2 ^ 31) (ha : a ≤ b) (h1 : nI a ≤ x) (h2 : x ≤ nI b) : 0 ≤ x ∧ a ≤ tn x ∧ tn x ≤ b := by
  have h0 : 0 ≤ x := by
    have := nI_ge0 (n := a) (by omega)
    rw [Int32.le_iff_toInt_le] at *
    omega
  rw [← nI_tn h0] at h1 h2
  have e : ∀ n : Nat, n < 2 ^ 31 → (nI n).toInt = n := fun n hn => nI_toInt hn
  have hx : tn x < 2 ^ 31 := by unfold tn Int32.toNatClampNeg; have := Int32.toInt_lt x; omega
  rw [Int32.le_iff_toInt_le, e _ (by omega), e _ hx] at h1
  rw [Int32.le_iff_toInt_le, e _ hx, e _ hb] at h2
  exact ⟨h0, by omega, by omega⟩
/-- a command that can be executed -/
def md_CC (n6 : Int32) (f : Nat → Int32) : Prop :=
  (f 0 = nI 2 ∧ 0 ≤ f 1 ∧ 2 ≤ tn (f 1) ∧ tn (f 1) ≤ 10) ∨ (f 0 = nI 3 ∧ 0 ≤ f 2 ∧ tn (f 2) < tn n6) ∨ (f 0 = nI 4 ∧ 0 ≤ f 2 ∧ 1 ≤ tn (f 2) ∧ tn (f 2) ≤ 200) ∨
  (f 0 = nI 5 ∧ (0 ≤ f 2 ∧ tn (f 2) ≤ 19) ∧ 0 ≤ f 3 ∧ 1 ≤ tn (f 3) ∧ tn (f 3) ≤ 8) ∨ (f 0 = nI 6 ∧ (0 ≤ f 2 ∧ tn (f 2) < tn n6) ∧ 0 ≤ f 3 ∧ 1 ≤ tn (f 3) ∧ tn (f 3) ≤ 9999) ∨ (f 0 = nI 7 ∧ 0 ≤ f 2 ∧ tn (f 2) ≤ 19)
theorem CC2 {n6 : Int32} {f : Nat → Int32} (h : md_CC n6 f) (e : f 0 = nI 2) : 0 ≤ f 1 ∧ 2 ≤ tn (f 1) ∧ tn (f 1) ≤ 10 := by
  rcases h with q | q | q | q | q | q
  · exact q.2
  all_goals exact absurd (e.symm.trans q.1) (by decide)
theorem CC3 {n6 : Int32} {f : Nat → Int32} (h : md_CC n6 f) (e : f 0 = nI 3) : 0 ≤ f 2 ∧ tn (f 2) < tn n6 := by
  rcases h with q | q | q | q | q | q
  · exact absurd (e.symm.trans q.1) (by decide)
  · exact q.2
  all_goals exact absurd (e.symm.trans q.1) (by decide)
theorem CC5 {n6 : Int32} {f : Nat → Int32} (h : md_CC n6 f) (e : f 0 = nI 5) : (0 ≤ f 2 ∧ tn (f 2) ≤ 19) ∧ 0 ≤ f 3 ∧ 1 ≤ tn (f 3) ∧ tn (f 3) ≤ 8 := by
  rcases h with q | q | q | q | q | q
  · exact absurd (e.symm.trans q.1) (by decide)
  · exact absurd (e.symm.trans q.1) (by decide)
  · exact absurd (e.symm.trans q.1) (by decide)
  · exact q.2
  all_goals exact absurd (e.symm.trans q.1) (by decide)
theorem CC6 {n6 : Int32} {f : Nat → Int32} (h : md_CC n6 f) (e : f 0 = nI 6) : (0 ≤ f 2 ∧ tn (f 2) < tn n6) ∧ 0 ≤ f 3 ∧ 1 ≤ tn (f 3) ∧ tn (f 3) ≤ 9999 := by
  rcases h with q | q | q | q | q | q
  · exact absurd (e.symm.trans q.1) (by decide)
  · exact absurd (e.symm.trans q.1) (by decide)
  · exact absurd (e.symm.trans q.1) (by decide)
  · exact absurd (e.symm.trans q.1) (by decide)
  · exact q.2
  · exact absurd (e.symm.trans q.1) (by decide)
theorem CC7 {n6 : Int32} {f : Nat → Int32} (h : md_CC n6 f) (e : f 0 = nI 7) : 0 ≤ f 2 ∧ tn (f 2) ≤ 19 := by
  rcases h with q | q | q | q | q | q
  case inr.inr.inr.inr.inr => exact q.2
  all_goals exact absurd (e.symm.trans q.1) (by decide)
theorem CC4 {n6 : Int32} {f : Nat → Int32} (h : md_CC n6 f) (e2 : ¬ f 0 = nI 2) (e3 : ¬ f 0 = nI 3) (e5 : ¬ f 0 = nI 5) (e6 : ¬ f 0 = nI 6) (e7 : ¬ f 0 = nI 7) : 0 ≤ f 2 ∧ 1 ≤ tn (f 2) ∧ tn (f 2) ≤ 200 := by
  rcases h with q | q | q | q | q | q
  · exact absurd q.1 e2
  · exact absurd q.1 e3
  · exact q.2
  · exact absurd q.1 e5
  · exact absurd q.1 e6
  · exact absurd q.1 e7
