/-! WHAT THE REFERENCE WRITES, PLACE BY PLACE; THE LEDGER KEPT -/
section CEL
variable {m P : Nat} {J : ow_I}
theorem ce_sell (h10 : ¬ J (m + 1) 10 < 0) (hk : tn (J (m + 1) 8) < 20) (hy : tn (J (m + 1) 10) < 6) (j : Nat) : M_closeBarrel m J (m + 1) j = if j = 11 then nI 0 else if j = 9 then nI 0 else if j = 10 then -1 else if j = 8 then -1 else if j = 66 + 15 * tn (J (m + 1) 8) + 14 then J (m + 1) 9 else if j = 66 + 15 * tn (J (m + 1) 8) + 13 then nI (tn (J (m + 1) 10)) else if j = 66 + 15 * tn (J (m + 1) 8) + 12 then nI 2 else if j = 14 then J (m + 1) 14 + (M_costOfPrice m (J (m + 1) 9) J - J (m + 1) 9) else if j = 13 then J (m + 1) 13 + J (m + 1) 9 else if j = 36 + 5 * tn (J (m + 1) 10) + 3 then J (m + 1) (36 + 5 * tn (J (m + 1) 10) + 3) + nI 1 else if j = 36 + 5 * tn (J (m + 1) 10) + 0 then J (m + 1) (36 + 5 * tn (J (m + 1) 10) + 0) - M_costOfPrice m (J (m + 1) 9) J else J (m + 1) j := by
  simp only [M_closeBarrel, M_sell, M_put, M_putBarrel, M_of, M_ofBarrel, lt_eq, if_neg h10]
  generalize tn (J (m + 1) 8) = k at hk ⊢
  generalize tn (J (m + 1) 10) = y at hy ⊢
  generalize M_costOfPrice m (J (m + 1) 9) J = c
  have r1 : ow_u J (m + 1) (36 + 5 * y + 0) (J (m + 1) (36 + 5 * y + 0) - c) (m + 1) (36 + 5 * y + 3) = J (m + 1) (36 + 5 * y + 3) := by rw [u_one, if_neg (by omega)]
  rw [r1]
  have r2 : ow_u (ow_u J (m + 1) (36 + 5 * y + 0) (J (m + 1) (36 + 5 * y + 0) - c)) (m + 1) (36 + 5 * y + 3) (J (m + 1) (36 + 5 * y + 3) + nI 1) (m + 1) 13 = J (m + 1) 13 := by rw [u_one, if_neg (by omega), u_one, if_neg (by omega)]
  rw [r2]
  have r3 : ow_u (ow_u (ow_u J (m + 1) (36 + 5 * y + 0) (J (m + 1) (36 + 5 * y + 0) - c)) (m + 1) (36 + 5 * y + 3) (J (m + 1) (36 + 5 * y + 3) + nI 1)) (m + 1) 13 (J (m + 1) 13 + J (m + 1) 9) (m + 1) 14 = J (m + 1) 14 := by rw [u_one, if_neg (by omega), u_one, if_neg (by omega), u_one, if_neg (by omega)]
  rw [r3]
  simp only [u_one]
theorem ce_back (h10 : J (m + 1) 10 < 0) (hk : tn (J (m + 1) 8) < 20) (hc : J (m + 1) (66 + 15 * tn (J (m + 1) 8) + 11) + nI 1 = nI 3) (j : Nat) : M_closeBarrel m J (m + 1) j = if j = 11 then nI 0 else if j = 9 then nI 0 else if j = 10 then -1 else if j = 8 then -1 else if j = 66 + 15 * tn (J (m + 1) 8) + 12 then nI 3 else if j = 66 + 15 * tn (J (m + 1) 8) + 11 then J (m + 1) (66 + 15 * tn (J (m + 1) 8) + 11) + nI 1 else J (m + 1) j := by
  simp only [M_closeBarrel, M_turnBack, M_enqueue, M_putBarrel, M_ofBarrel, lt_eq, if_pos h10, if_pos hc]
  simp (disch := omega) only [u_one, if_neg, if_pos, if_true]
theorem ce_again (h10 : J (m + 1) 10 < 0) (hk : tn (J (m + 1) 8) < 20) (h12 : tn (J (m + 1) 12) < 20) (hc : ¬ J (m + 1) (66 + 15 * tn (J (m + 1) 8) + 11) + nI 1 = nI 3) (j : Nat) : M_closeBarrel m J (m + 1) j = if j = 11 then nI 0 else if j = 9 then nI 0 else if j = 10 then -1 else if j = 8 then -1 else if j = 12 then J (m + 1) 12 + nI 1 else if j = 16 + tn (J (m + 1) 12) then nI (tn (J (m + 1) 8)) else if j = 66 + 15 * tn (J (m + 1) 8) + 12 then nI 0 else if j = 66 + 15 * tn (J (m + 1) 8) + 11 then J (m + 1) (66 + 15 * tn (J (m + 1) 8) + 11) + nI 1 else J (m + 1) j := by
  simp only [M_closeBarrel, M_turnBack, M_enqueue, M_putBarrel, M_ofBarrel, lt_eq, if_pos h10, if_neg hc]
  simp (disch := omega) only [u_one, if_neg, if_pos, if_true]
theorem ce_open (hv : md_V (J (m + 1))) (h0 : ¬ tn (J (m + 1) 12) = 0) (j : Nat) : M_openFirst m J (m + 1) j = if j = 11 then nI 0 else if j = 9 then nI 0 else if j = 10 then -1 else if j = 8 then nI (tn (J (m + 1) 16)) else if j = 66 + 15 * tn (J (m + 1) 16) + 12 then nI 1 else if j = 12 then nI (tn (J (m + 1) 12) - 1) else if 16 ≤ j ∧ j < 16 + (tn (J (m + 1) 12) - 1) then J (m + 1) (j + 1) else J (m + 1) j := by
  have h12 := hv.2.2.2.2.2.1
  have hq := q0_V hv h0
  have d := fun k => @dq_cells m (tn (J (m + 1) 16)) 0 J h12.1 h12.2 (by omega) (nI_tn hq.1).symm (fun j hj => by omega) k
  unfold M_openFirst
  rw [if_neg h0]
  simp only [M_putBarrel, lt_eq]
  simp (disch := omega) only [u_one, if_neg, if_pos, if_true, d, Nat.add_zero]
theorem ce_nod {b : Nat} (hb : b < 6) (j : Nat) : (M_nodNow m b J).2 (m + 1) j = if j = 36 + 5 * b + 4 then J (m + 1) (36 + 5 * b + 4) + nI 1 else if j = 11 then nI 0 else if j = 10 then nI b else if j = 9 then M_bidNext m J else J (m + 1) j := by
  simp only [M_nodNow, M_put, M_of, lt_eq]
  simp (disch := omega) only [u_one, if_neg, if_pos, if_true]
end CEL
section LGK
variable {P : Nat} {f g : Nat → Int32}
theorem zB_i {y : Nat} : ∀ n, (∀ k, k < n → (g (66 + 15 * k + 12) = nI 2 ↔ f (66 + 15 * k + 12) = nI 2) ∧ g (66 + 15 * k + 13) = f (66 + 15 * k + 13)) → zB g y n = zB f y n := by
  intro n
  induction n with
  | zero => intro _; rfl
  | succ n ih =>
    intro h
    obtain ⟨h1, h2⟩ := h n (by omega)
    simp only [zB]
    rw [h2, ih (fun k hk => h k (by omega))]
    by_cases e : f (66 + 15 * n + 12) = nI 2 ∧ f (66 + 15 * n + 13) = nI y
    · rw [if_pos e, if_pos ⟨h1.mpr e.1, e.2⟩]
    · rw [if_neg e, if_neg (fun z => e ⟨h1.mp z.1, z.2⟩)]
theorem zP_i : ∀ n, (∀ k, k < n → (g (66 + 15 * k + 12) = nI 2 ↔ f (66 + 15 * k + 12) = nI 2) ∧ g (66 + 15 * k + 14) = f (66 + 15 * k + 14)) → zP g n = zP f n := by
  intro n
  induction n with
  | zero => intro _; rfl
  | succ n ih =>
    intro h
    obtain ⟨h1, h2⟩ := h n (by omega)
    simp only [zP]
    rw [h2, ih (fun k hk => h k (by omega))]
    by_cases e : f (66 + 15 * n + 12) = nI 2
    · rw [if_pos e, if_pos (h1.mpr e)]
    · rw [if_neg e, if_neg (fun z => e (h1.mp z))]
/-- states that change, but none to or from sold -/
theorem lgf_s (hv : md_V f) (h : lgf P f) (e6 : g 6 = f 6) (e7 : g 7 = f 7) (e13 : g 13 = f 13) (e14 : g 14 = f 14) (e15 : g 15 = f 15) (ep : ∀ y, y < 6 → g (36 + 5 * y) = f (36 + 5 * y) ∧ g (36 + 5 * y + 3) = f (36 + 5 * y + 3))
    (eb : ∀ k, k < 20 → g (66 + 15 * k + 13) = f (66 + 15 * k + 13) ∧ g (66 + 15 * k + 14) = f (66 + 15 * k + 14)) (es : ∀ k, k < 20 → (g (66 + 15 * k + 12) = nI 2 ↔ f (66 + 15 * k + 12) = nI 2)) (er : ∀ k, k < tn (f 7) → g (66 + 15 * k + 12) = 0 ∨ g (66 + 15 * k + 12) = nI 1 → ∃ r : Nat, g (66 + 15 * k + 11) = nI r ∧ r ≤ 2) : lgf P g := by
  have h6 := hv.2.1.2.2
  have h7 := hv.2.2.1.2
  obtain ⟨q1, q2, q3, q4, q5, q6, q7⟩ := h
  unfold lgf
  rw [e6, e7, e13, e14, e15]
  refine ⟨fun b hb hs => ?_, fun b hb hs => ?_, fun y hy => ?_, ?_, ?_, er, fun y hy => ?_⟩
  · rw [(eb b (by omega)).1]; exact q1 b hb ((es b (by omega)).mp hs)
  · rw [(eb b (by omega)).1, (eb b (by omega)).2]; exact q2 b hb (fun z => hs ((es b (by omega)).mpr z))
  · rw [(ep y (by omega)).2, q3 y hy, zB_i _ (fun k hk => ⟨es k (by omega), (eb k (by omega)).1⟩)]
  · rw [q4, zP_i _ (fun k hk => ⟨es k (by omega), (eb k (by omega)).2⟩)]
  · rw [zS_c _ (fun k hk => (ep k (by omega)).1)]; exact q5
  · rw [(ep y (by omega)).1]; exact q7 y hy
theorem zB_1 {y y0 k0 : Nat} (hy : y < 2 ^ 31) (hy0 : y0 < 2 ^ 31) (h0 : ¬ f (66 + 15 * k0 + 12) = nI 2) (h1 : g (66 + 15 * k0 + 12) = nI 2) (h2 : g (66 + 15 * k0 + 13) = nI y0) : ∀ n, (∀ k, k < n → k ≠ k0 → g (66 + 15 * k + 12) = f (66 + 15 * k + 12) ∧ g (66 + 15 * k + 13) = f (66 + 15 * k + 13)) → zB g y n = zB f y n + if k0 < n ∧ y = y0 then 1 else 0 := by
  intro n
  induction n with
  | zero => intro _; rw [if_neg (fun z => Nat.not_lt_zero _ z.1)]; rfl
  | succ n ih =>
    intro h
    have hi := ih (fun k hk => h k (by omega))
    simp only [zB]
    by_cases e : n = k0
    · subst e
      have hf : ¬ (f (66 + 15 * n + 12) = nI 2 ∧ f (66 + 15 * n + 13) = nI y) := fun z => h0 z.1
      have hn : ¬ (n < n ∧ y = y0) := fun z => Nat.lt_irrefl _ z.1
      rw [if_neg hf, hi, if_neg hn, h1, h2]
      by_cases d : y = y0
      · subst d; rw [if_pos ⟨rfl, rfl⟩, if_pos ⟨Nat.lt_succ_self _, rfl⟩]
      · rw [if_neg (fun z => d ((nI_eq hy0 hy).mp z.2).symm), if_neg (fun z => d z.2)]
    · obtain ⟨g1, g2⟩ := h n (Nat.lt_succ_self _) e
      rw [g1, g2, hi]
      have : (k0 < n + 1 ∧ y = y0) ↔ (k0 < n ∧ y = y0) := ⟨fun z => ⟨by omega, z.2⟩, fun z => ⟨by omega, z.2⟩⟩
      simp only [this]
      split <;> omega
theorem zP_1 {p : Int32} {k0 : Nat} (h0 : ¬ f (66 + 15 * k0 + 12) = nI 2) (h1 : g (66 + 15 * k0 + 12) = nI 2) (h2 : g (66 + 15 * k0 + 14) = p) : ∀ n, (∀ k, k < n → k ≠ k0 → g (66 + 15 * k + 12) = f (66 + 15 * k + 12) ∧ g (66 + 15 * k + 14) = f (66 + 15 * k + 14)) → zP g n = zP f n + if k0 < n then p else 0 := by
  intro n
  induction n with
  | zero => intro _; rw [if_neg (Nat.not_lt_zero _)]; exact (Int32.add_zero _).symm
  | succ n ih =>
    intro h
    have hi := ih (fun k hk => h k (by omega))
    simp only [zP]
    by_cases e : n = k0
    · subst e
      rw [if_neg h0, hi, if_neg (Nat.lt_irrefl _), if_pos h1, h2, if_pos (Nat.lt_succ_self _), Int32.add_zero]
    · obtain ⟨g1, g2⟩ := h n (Nat.lt_succ_self _) e
      rw [g1, g2, hi]
      have : (k0 < n + 1) ↔ (k0 < n) := ⟨fun z => by omega, fun z => by omega⟩
      simp only [this]
      split
      · rw [Int32.add_assoc, Int32.add_assoc, Int32.add_comm (f _)]
      · rfl
theorem zS_1 {x : Int32} {y0 : Nat} (h1 : g (36 + 5 * y0) = f (36 + 5 * y0) + x) : ∀ n, (∀ k, k < n → k ≠ y0 → g (36 + 5 * k) = f (36 + 5 * k)) → zS g n = zS f n + if y0 < n then x else 0 := by
  intro n
  induction n with
  | zero => intro _; rw [if_neg (Nat.not_lt_zero _)]; exact (Int32.add_zero _).symm
  | succ n ih =>
    intro h
    have hi := ih (fun k hk => h k (by omega))
    simp only [zS]
    by_cases e : n = y0
    · subst e
      rw [hi, if_neg (Nat.lt_irrefl _), h1, if_pos (Nat.lt_succ_self _), Int32.add_zero, Int32.add_assoc]
    · rw [h n (Nat.lt_succ_self _) e, hi]
      have : (y0 < n + 1) ↔ (y0 < n) := ⟨fun z => by omega, fun z => by omega⟩
      simp only [this]
      split
      · rw [Int32.add_assoc, Int32.add_assoc, Int32.add_comm (f _)]
      · rw [Int32.add_zero, Int32.add_zero]
theorem rg_1 (a s b d p c : Int32) : a - (s + -c) - (b + p) - (d + (c - p)) = a - s - b - d := by grind
theorem rg_2 (a s b d x : Int32) : a + x - (s + x) - b - d = a - s - b - d := by grind
end LGK
