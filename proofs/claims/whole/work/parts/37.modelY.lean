/-! the reference's acts: what they ask for -/
theorem mdV_8' {A : Nat → Int32} (hv : md_V A) : tn (A 8) < 20 := by
  have h1 := hv.2.2.1
  rcases hv.2.2.2.1 with q | q
  · rw [q]; decide
  · omega
theorem mdV_qlt {A : Nat → Int32} (hv : md_V A) (h7 : tn (A 7) < 20) : tn (A 12) < 20 := by
  rw [md_V_eq] at hv
  have := VV_qle hv
  omega
theorem isB {m : Nat} {x : Int32} {I : ow_I} (h : M_isBarrel m x I = true) (h7 : 0 ≤ I (m + 1) 7) : 0 ≤ x ∧ tn x < tn (I (m + 1) 7) := by
  unfold M_isBarrel at h
  split at h
  · exact absurd h (by decide)
  · split at h
    · exact absurd h (by decide)
    · rename_i h1 h2
      have h0 := i_nlt h1
      refine ⟨h0, ?_⟩
      have h2 := i_lt h2
      rw [Int32.lt_iff_toInt_lt] at h2
      rw [Int32.le_iff_toInt_le] at h0 h7
      have z : (0 : Int32).toInt = 0 := by decide
      unfold tn Int32.toNatClampNeg
      omega
theorem RA_8 {m b : Nat} {I : ow_I} (h : M_reasonAgainst m b I ≤ 0) : 0 ≤ I (m + 1) 8 := by
  unfold M_reasonAgainst at h
  split at h
  · split at h
    · assumption
    · exact absurd h (by decide)
  · exact absurd h (by decide)
theorem cS {m b e : Nat} {I : ow_I} (h : M_canSplit m b e I = true) : M_isWaiting m b I = true ∧ nI e < M_ofBarrel m b 0 I ∧ I (m + 1) 7 < nI 20 := by
  unfold M_canSplit at h
  revert h
  (repeat' split) <;> intro h
  case isTrue.isFalse.isFalse => exact ⟨by assumption, i_lt (by assumption), i_lt (by assumption)⟩
  all_goals exact absurd h (by decide)
theorem lt_tn {x y : Int32} (h : x < y) (hx : 0 ≤ x) : 0 ≤ y ∧ tn x < tn y := by
  rw [Int32.lt_iff_toInt_lt] at h
  rw [Int32.le_iff_toInt_le] at hx ⊢
  have z : (0 : Int32).toInt = 0 := by decide
  unfold tn Int32.toNatClampNeg
  omega
theorem isW {m b : Nat} {I : ow_I} (h : M_isWaiting m b I = true) : I (m + 1) (66 + 15 * b + 12) = 0 := by
  unfold M_isWaiting at h
  split at h
  · assumption
  · exact absurd h (by decide)
theorem V_wait {m b : Nat} {I : ow_I} (hv : md_V (I (m + 1))) (hb : b < tn (I (m + 1) 7)) (h : M_isWaiting m b I = true) : ∃ p, p < tn (I (m + 1) 12) ∧ I (m + 1) (16 + p) = nI b := hv.2.2.2.2.2.2.2.2.1 b hb (isW h)
theorem CC4a {n6 : Int32} {f : Nat → Int32} (h : md_CC n6 f) (e : f 0 = nI 4) : 0 ≤ f 2 ∧ 1 ≤ tn (f 2) ∧ tn (f 2) ≤ 200 :=
  CC4 h (fun z => absurd (e.symm.trans z) (by decide)) (fun z => absurd (e.symm.trans z) (by decide)) (fun z => absurd (e.symm.trans z) (by decide)) (fun z => absurd (e.symm.trans z) (by decide)) (fun z => absurd (e.symm.trans z) (by decide))
theorem ae_0 {m b c : Nat} {x : Int32} {I : ow_I} (h : I (m + 1) (66 + 15 * b) = nI c) (hc : c < 9) : M_addEel m b x I (m + 1) (66 + 15 * b) = nI (c + 1) := by
  have e : tn (M_ofBarrel m b 0 I) = c := by show tn (I (m + 1) (66 + 15 * b)) = c; rw [h, tn_nI (by omega)]
  simp (disch := omega) only [M_addEel, lt_eq, u_one, M_putBarrel, if_pos, e, Nat.add_zero, ↓reduceIte]
theorem nb_0 {m : Nat} {r : Int32} {I : ow_I} (h7 : tn (I (m + 1) 7) < 20) (h12 : tn (I (m + 1) 12) < 20) : (M_newBarrel m r I).2 (m + 1) (66 + 15 * tn (I (m + 1) 7)) = nI 0 := by
  simp (disch := omega) only [M_newBarrel, M_enqueue, lt_eq, u_one, M_putBarrel, if_neg, if_pos, Nat.add_zero, ↓reduceIte]
