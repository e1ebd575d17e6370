/-! what a block of the reference keeps: period, counts, the open barrel, the leader, the queue, the eels -/
def md_V (A : Nat → Int32) : Prop :=
  ¬ A 0 = 0 ∧ (0 ≤ A 6 ∧ 1 ≤ tn (A 6) ∧ tn (A 6) ≤ 6) ∧ (0 ≤ A 7 ∧ tn (A 7) ≤ 20) ∧
  (A 8 = -1 ∨ (0 ≤ A 8 ∧ tn (A 8) < tn (A 7) ∧ ¬ A (66 + 15 * tn (A 8) + 12) = 0)) ∧
  (A 10 = -1 ∨ (0 ≤ A 10 ∧ tn (A 10) < tn (A 6) ∧ 0 ≤ A 8)) ∧
  (0 ≤ A 12 ∧ tn (A 12) ≤ 20) ∧
  (∀ i, i < tn (A 12) → 0 ≤ A (16 + i) ∧ tn (A (16 + i)) < tn (A 7) ∧ A (66 + 15 * tn (A (16 + i)) + 12) = 0) ∧
  (∀ i j, i < tn (A 12) → j < tn (A 12) → A (16 + i) = A (16 + j) → i = j) ∧
  (∀ k, k < tn (A 7) → A (66 + 15 * k + 12) = 0 → ∃ p, p < tn (A 12) ∧ A (16 + p) = nI k) ∧
  (∀ k, k < tn (A 7) → 0 ≤ A (66 + 15 * k) ∧ 1 ≤ tn (A (66 + 15 * k)) ∧ tn (A (66 + 15 * k)) ≤ 9)
theorem i_nlt {x y : Int32} (h : ¬ x < y) : y ≤ x := by rw [Int32.lt_iff_toInt_lt] at h; rw [Int32.le_iff_toInt_le]; omega
theorem i_lt {x y : Int32} (h : ¬ y ≤ x) : x < y := by rw [Int32.le_iff_toInt_le] at h; rw [Int32.lt_iff_toInt_lt]; omega
theorem i_m1 : ¬ (0 : Int32) ≤ -1 := by decide
theorem nI_ge0 {n : Nat} (h : n < 2 ^ 31) : 0 ≤ nI n := nI_pos' h
theorem m1_add {i : Nat} (h : 1 ≤ i) : (-1 : Int32) + nI i = nI (i - 1) := by
  obtain ⟨j, rfl⟩ : ∃ j, i = j + 1 := ⟨i - 1, by omega⟩
  rw [Int32.add_comm, pk_m1]
  rfl
theorem md_th {A : Nat → Int32} (hv : md_V A) {i : Nat} (h1 : 1 ≤ i) (h2 : i ≤ tn (A 6)) : 0 ≤ A 10 + nI i - (A 10 + nI i) / A 6 * A 6 ∧ tn (A 10 + nI i - (A 10 + nI i) / A 6 * A 6) < tn (A 6) := by
  obtain ⟨-, ⟨g1, g2, g3⟩, -, -, g5, -⟩ := hv
  have e6 := (nI_tn g1).symm
  have key : ∀ j : Nat, j < 2 ^ 20 → A 10 + nI i = nI j → 0 ≤ A 10 + nI i - (A 10 + nI i) / A 6 * A 6 ∧ tn (A 10 + nI i - (A 10 + nI i) / A 6 * A 6) < tn (A 6) := by
    intro j hj e
    rw [e]
    generalize tn (A 6) = n at e6 g2 g3 h2 ⊢
    rw [e6, pk_rem (by omega) (by omega) (by omega)]
    have h3 := Nat.mod_lt j (show 0 < n by omega)
    exact ⟨nI_ge0 (by omega), by rw [tn_nI (by omega)]; exact h3⟩
  rcases g5 with g5 | ⟨g5, g6, -⟩
  · exact key (i - 1) (by omega) (by rw [g5, m1_add h1])
  · exact key (tn (A 10) + i) (by omega) (by rw [← nI_add, nI_tn g5])
theorem mdV_10 {A : Nat → Int32} (hv : md_V A) (h : 0 ≤ A 10) : tn (A 10) < 6 := by
  have h1 := hv.2.1
  rcases hv.2.2.2.2.1 with q | q
  · rw [q] at h; exact absurd h i_m1
  · omega
theorem mdV_8 {A : Nat → Int32} (hv : md_V A) (h : 0 ≤ A 8) : tn (A 8) < 20 := by
  have h1 := hv.2.2.1
  rcases hv.2.2.2.1 with q | q
  · rw [q] at h; exact absurd h i_m1
  · omega
theorem tn_inc {x : Int32} (h : 0 ≤ x) (hb : tn x < 2 ^ 30) : 0 ≤ x + nI 1 ∧ tn (x + nI 1) = tn x + 1 := by
  have e := (nI_tn h).symm
  generalize tn x = n at e hb ⊢
  subst e
  rw [nI_add]
  exact ⟨nI_ge0 (by omega), tn_nI (by omega)⟩
theorem mdV_q0 {A : Nat → Int32} (hv : md_V A) : 0 < tn (A 12) → 0 ≤ A 16 ∧ tn (A 16) < 20 := fun h => by
  have h1 := hv.2.2.2.2.2.2.1 0 h
  have h2 := hv.2.2.1
  exact ⟨h1.1, by have := h1.2.1; simp only [Nat.add_zero] at this; omega⟩
/-! what a block keeps, of its parts -/
theorem pigeon : ∀ (n q : Nat) (f : Nat → Nat), (∀ i, i < q → f i < n) → (∀ i j, i < q → j < q → f i = f j → i = j) → q ≤ n := by
  intro n
  induction n with
  | zero =>
    intro q f h _
    rcases Nat.eq_zero_or_pos q with z | z
    · omega
    · exact absurd (h 0 z) (by omega)
  | succ n ih =>
    intro q f h hj
    by_cases c : ∃ i, i < q ∧ f i = n
    · obtain ⟨p, hp, e⟩ := c
      have r := ih (q - 1) (fun j => f (if j < p then j else j + 1)) (fun i hi => by
        have h1 := h (if i < p then i else i + 1) (by split <;> omega)
        have h2 : f (if i < p then i else i + 1) ≠ n := fun z => by
          have := hj _ _ (by split <;> omega) hp (z.trans e.symm)
          split at this <;> omega
        show f (if i < p then i else i + 1) < n
        omega) (fun i j hi hj2 e2 => by
        have := hj _ _ (by split <;> omega) (by split <;> omega) e2
        split at this <;> split at this <;> omega)
      omega
    · have r := ih q f (fun i hi => by
        have h1 := h i hi
        have h2 : f i ≠ n := fun z => c ⟨i, hi, z⟩
        omega) hj
      omega
def md_VV (a0 a6 a7 a8 a10 a12 : Int32) (Q s e : Nat → Int32) : Prop :=
  ¬ a0 = 0 ∧ (0 ≤ a6 ∧ 1 ≤ tn a6 ∧ tn a6 ≤ 6) ∧ (0 ≤ a7 ∧ tn a7 ≤ 20) ∧
  (a8 = -1 ∨ (0 ≤ a8 ∧ tn a8 < tn a7 ∧ ¬ s (tn a8) = 0)) ∧
  (a10 = -1 ∨ (0 ≤ a10 ∧ tn a10 < tn a6 ∧ 0 ≤ a8)) ∧
  (0 ≤ a12 ∧ tn a12 ≤ 20) ∧
  (∀ i, i < tn a12 → 0 ≤ Q i ∧ tn (Q i) < tn a7 ∧ s (tn (Q i)) = 0) ∧
  (∀ i j, i < tn a12 → j < tn a12 → Q i = Q j → i = j) ∧
  (∀ k, k < tn a7 → s k = 0 → ∃ p, p < tn a12 ∧ Q p = nI k) ∧
  (∀ k, k < tn a7 → 0 ≤ e k ∧ 1 ≤ tn (e k) ∧ tn (e k) ≤ 9)
theorem md_V_eq (A : Nat → Int32) : md_V A = md_VV (A 0) (A 6) (A 7) (A 8) (A 10) (A 12) (fun i => A (16 + i)) (fun k => A (66 + 15 * k + 12)) (fun k => A (66 + 15 * k)) := rfl
section
variable {a0 a6 a7 a8 a10 a12 : Int32} {Q s e Q' s' e' : Nat → Int32}
theorem tn_inj {x y : Int32} (hx : 0 ≤ x) (hy : 0 ≤ y) (h : tn x = tn y) : x = y := by rw [← nI_tn hx, ← nI_tn hy, h]
theorem VV_qle (hv : md_VV a0 a6 a7 a8 a10 a12 Q s e) : tn a12 ≤ tn a7 := by
  obtain ⟨-, -, -, -, -, -, hq, hi, -, -⟩ := hv
  exact pigeon _ _ (fun i => tn (Q i)) (fun i h => (hq i h).2.1) (fun i j h1 h2 z => hi i j h1 h2 (tn_inj (hq i h1).1 (hq j h2).1 z))
theorem VV_qlt (hv : md_VV a0 a6 a7 a8 a10 a12 Q s e) (h8 : 0 ≤ a8) : tn a12 < tn a7 := by
  obtain ⟨-, -, -, ho, -, -, hq, hi, -, -⟩ := hv
  have ho : tn a8 < tn a7 ∧ ¬ s (tn a8) = 0 := by
    rcases ho with z | z
    · rw [z] at h8; exact absurd h8 i_m1
    · exact z.2
  have hne : ∀ i, i < tn a12 → tn (Q i) ≠ tn a8 := fun i h z => ho.2 (by rw [← z]; exact (hq i h).2.2)
  refine pigeon _ (tn a12 + 1) (fun i => if i < tn a12 then tn (Q i) else tn a8) (fun i h => ?_) (fun i j h1 h2 z => ?_)
  · show (if i < tn a12 then tn (Q i) else tn a8) < tn a7
    split
    · exact (hq i (by omega)).2.1
    · exact ho.1
  · split at z <;> split at z
    · exact hi i j (by omega) (by omega) (tn_inj (hq i (by omega)).1 (hq j (by omega)).1 z)
    · exact absurd z (hne i (by omega))
    · exact absurd z.symm (hne j (by omega))
    · omega
theorem VV_congr (hv : md_VV a0 a6 a7 a8 a10 a12 Q s e) (hQ : ∀ i, i < 20 → Q' i = Q i) (hs : ∀ i, i < 20 → s' i = s i) (he : ∀ i, i < 20 → e' i = e i) : md_VV a0 a6 a7 a8 a10 a12 Q' s' e' := by
  obtain ⟨h0, h6, h7, h8, h10, h12, hq, hi, hw, hee⟩ := hv
  refine ⟨h0, h6, h7, ?_, h10, h12, ?_, ?_, ?_, ?_⟩
  · rcases h8 with z | z
    · exact Or.inl z
    · exact Or.inr ⟨z.1, z.2.1, by rw [hs _ (by omega)]; exact z.2.2⟩
  · intro i h
    have q := hq i h
    rw [hQ i (by omega), hs _ (by omega)]
    exact q
  · intro i j h1 h2
    rw [hQ i (by omega), hQ j (by omega)]
    exact hi i j h1 h2
  · intro k h z
    rw [hs k (by omega)] at z
    obtain ⟨p, g1, g2⟩ := hw k h z
    exact ⟨p, g1, by rw [hQ p (by omega)]; exact g2⟩
  · intro k h
    rw [he k (by omega)]
    exact hee k h
theorem VV_shut (hv : md_VV a0 a6 a7 a8 a10 a12 Q s e) (h8 : 0 ≤ a8) {x : Int32} (hx : ¬ x = 0) (hs : ∀ k, k < 20 → s' k = if k = tn a8 then x else s k) : md_VV a0 a6 a7 (-1) (-1) a12 Q s' e := by
  have hv0 := hv
  obtain ⟨h0, h6, h7, ho, h10, h12, hq, hi, hw, hee⟩ := hv
  have ho : tn a8 < tn a7 ∧ ¬ s (tn a8) = 0 := by
    rcases ho with z | z
    · rw [z] at h8; exact absurd h8 i_m1
    · exact z.2
  refine ⟨h0, h6, h7, Or.inl rfl, Or.inl rfl, h12, ?_, hi, ?_, hee⟩
  · intro i h
    have q := hq i h
    refine ⟨q.1, q.2.1, ?_⟩
    rw [hs _ (by omega), if_neg (fun z => ho.2 (by rw [← z]; exact q.2.2))]
    exact q.2.2
  · intro k h z
    rw [hs k (by omega)] at z
    split at z
    · exact absurd z hx
    · exact hw k h z
theorem VV_back (hv : md_VV a0 a6 a7 a8 a10 a12 Q s e) (h8 : 0 ≤ a8) {a' : Int32} (ha : a' = a12 + nI 1) (hQ : ∀ i, i < 20 → Q' i = if i = tn a12 then nI (tn a8) else Q i) (hs : ∀ k, k < 20 → s' k = if k = tn a8 then 0 else s k) : md_VV a0 a6 a7 (-1) (-1) a' Q' s' e := by
  have hlt := VV_qlt hv h8
  obtain ⟨h0, h6, h7, ho, h10, h12, hq, hi, hw, hee⟩ := hv
  have t := tn_inc h12.1 (by omega)
  subst ha
  have ho : tn a8 < tn a7 ∧ ¬ s (tn a8) = 0 := by
    rcases ho with z | z
    · rw [z] at h8; exact absurd h8 i_m1
    · exact z.2
  have hne : ∀ i, i < tn a12 → ¬ Q i = nI (tn a8) := fun i h z => by
    have q := hq i h
    rw [z, tn_nI (by omega)] at q
    exact ho.2 q.2.2
  refine ⟨h0, h6, h7, Or.inl rfl, Or.inl rfl, ⟨t.1, by rw [t.2]; omega⟩, ?_, ?_, ?_, hee⟩
  · intro i h
    rw [t.2] at h
    rw [hQ i (by omega)]
    split
    · rw [tn_nI (by omega), hs _ (by omega), if_pos rfl]
      exact ⟨nI_ge0 (by omega), ho.1, rfl⟩
    · have q := hq i (by omega)
      refine ⟨q.1, q.2.1, ?_⟩
      rw [hs _ (by omega)]
      split
      · rfl
      · exact q.2.2
  · intro i j h1 h2
    rw [t.2] at h1 h2
    rw [hQ i (by omega), hQ j (by omega)]
    split <;> split <;> intro z
    · omega
    · exact absurd z.symm (hne j (by omega))
    · exact absurd z (hne i (by omega))
    · exact hi i j (by omega) (by omega) z
  · intro k h z
    rw [t.2]
    by_cases c : k = tn a8
    · exact ⟨tn a12, by omega, by rw [hQ _ (by omega), if_pos rfl, c]⟩
    · rw [hs k (by omega), if_neg c] at z
      obtain ⟨p, g1, g2⟩ := hw k h z
      exact ⟨p, by omega, by rw [hQ p (by omega), if_neg (by omega)]; exact g2⟩
theorem VV_deq (hv : md_VV a0 a6 a7 a8 a10 a12 Q s e) {p b : Nat} (hp : p < tn a12) (hb : Q p = nI b) (hbb : b < 20) {x a' a8' a10' : Int32} (hx : ¬ x = 0) (ha : a' = nI (tn a12 - 1)) (hQ : ∀ i, i < tn a12 - 1 → Q' i = if i < p then Q i else Q (i + 1)) (hs : ∀ k, k < 20 → s' k = if k = b then x else s k)
  (h810 : (a8' = a8 ∧ a10' = a10) ∨ (a8' = nI b ∧ a10' = -1)) : md_VV a0 a6 a7 a8' a10' a' Q' s' e := by
  obtain ⟨h0, h6, h7, ho, h10, h12, hq, hi, hw, hee⟩ := hv
  have t : tn a' = tn a12 - 1 := by rw [ha, tn_nI (by omega)]
  have hbn : b < tn a7 ∧ s b = 0 := by
    have q := hq p hp
    rw [hb, tn_nI (by omega)] at q
    exact q.2
  have hne : ∀ i, i < tn a12 → i ≠ p → tn (Q i) ≠ b := fun i h hip z => hip (hi i p h hp (by rw [hb, ← z]; exact (nI_tn (hq i h).1).symm))
  refine ⟨h0, h6, h7, ?_, ?_, ⟨by rw [ha]; exact nI_ge0 (by omega), by omega⟩, ?_, ?_, ?_, hee⟩
  · rcases h810 with z | z
    · rw [z.1]
      rcases ho with y | y
      · exact Or.inl y
      · refine Or.inr ⟨y.1, y.2.1, ?_⟩
        rw [hs _ (by omega)]
        split
        · exact hx
        · exact y.2.2
    · refine Or.inr ?_
      rw [z.1, tn_nI (by omega), hs _ (by omega), if_pos rfl]
      exact ⟨nI_ge0 (by omega), hbn.1, hx⟩
  · rcases h810 with z | z
    · rw [z.1, z.2]; exact h10
    · exact Or.inl z.2
  · intro i h
    rw [t] at h
    rw [hQ i h]
    split
    · have q := hq i (by omega)
      refine ⟨q.1, q.2.1, ?_⟩
      rw [hs _ (by omega), if_neg (hne i (by omega) (by omega))]
      exact q.2.2
    · have q := hq (i + 1) (by omega)
      refine ⟨q.1, q.2.1, ?_⟩
      rw [hs _ (by omega), if_neg (hne (i + 1) (by omega) (by omega))]
      exact q.2.2
  · intro i j h1 h2
    rw [t] at h1 h2
    rw [hQ i h1, hQ j h2]
    split <;> split <;> intro z
    · exact hi _ _ (by omega) (by omega) z
    · have := hi _ _ (by omega) (by omega) z; omega
    · have := hi _ _ (by omega) (by omega) z; omega
    · have := hi _ _ (by omega) (by omega) z; omega
  · intro k h z
    rw [hs k (by omega)] at z
    split at z
    · exact absurd z hx
    · rename_i hkb
      obtain ⟨j, g1, g2⟩ := hw k h z
      have hjp : j ≠ p := fun y => by
        rw [y, hb] at g2
        exact hkb ((nI_eq (by omega) (by omega)).1 g2).symm
      rcases Nat.lt_or_ge j p with c | c
      · exact ⟨j, by omega, by rw [hQ j (by omega), if_pos c]; exact g2⟩
      · refine ⟨j - 1, by omega, ?_⟩
        rw [hQ (j - 1) (by omega), if_neg (by omega), show j - 1 + 1 = j by omega]
        exact g2
theorem VV_new (hv : md_VV a0 a6 a7 a8 a10 a12 Q s e) (h20 : tn a7 < 20) {a7' a' : Int32} (ha7 : a7' = a7 + nI 1) (ha : a' = a12 + nI 1) (hQ : ∀ i, i < 20 → Q' i = if i = tn a12 then nI (tn a7) else Q i) (hs : ∀ k, k < 20 → s' k = if k = tn a7 then 0 else s k)
  (he : ∀ k, k < tn a7 + 1 → 0 ≤ e' k ∧ 1 ≤ tn (e' k) ∧ tn (e' k) ≤ 9) : md_VV a0 a6 a7' a8 a10 a' Q' s' e' := by
  have hle := VV_qle hv
  obtain ⟨h0, h6, h7, ho, h10, h12, hq, hi, hw, hee⟩ := hv
  have t := tn_inc h12.1 (by omega)
  have t7 := tn_inc h7.1 (by omega)
  subst ha ha7
  have hne : ∀ i, i < tn a12 → ¬ Q i = nI (tn a7) := fun i h z => by
    have q := hq i h
    rw [z, tn_nI (by omega)] at q
    omega
  refine ⟨h0, h6, ⟨t7.1, by rw [t7.2]; omega⟩, ?_, h10, ⟨t.1, by rw [t.2]; omega⟩, ?_, ?_, ?_, ?_⟩
  · rcases ho with z | z
    · exact Or.inl z
    · refine Or.inr ⟨z.1, by rw [t7.2]; omega, ?_⟩
      rw [hs _ (by omega), if_neg (by omega)]
      exact z.2.2
  · intro i h
    rw [t.2] at h
    rw [hQ i (by omega), t7.2]
    split
    · rw [tn_nI (by omega), hs _ (by omega), if_pos rfl]
      exact ⟨nI_ge0 (by omega), by omega, rfl⟩
    · have q := hq i (by omega)
      refine ⟨q.1, by omega, ?_⟩
      rw [hs _ (by omega), if_neg (by omega)]
      exact q.2.2
  · intro i j h1 h2
    rw [t.2] at h1 h2
    rw [hQ i (by omega), hQ j (by omega)]
    split <;> split <;> intro z
    · omega
    · exact absurd z.symm (hne j (by omega))
    · exact absurd z (hne i (by omega))
    · exact hi i j (by omega) (by omega) z
  · intro k h z
    rw [t7.2] at h
    rw [t.2]
    by_cases c : k = tn a7
    · exact ⟨tn a12, by omega, by rw [hQ _ (by omega), if_pos rfl, c]⟩
    · rw [hs k (by omega), if_neg c] at z
      obtain ⟨p, g1, g2⟩ := hw k (by omega) z
      exact ⟨p, by omega, by rw [hQ p (by omega), if_neg (by omega)]; exact g2⟩
  · intro k h
    rw [t7.2] at h
    exact he k (by omega)
theorem VV_lead (hv : md_VV a0 a6 a7 a8 a10 a12 Q s e) (h8 : 0 ≤ a8) {b : Nat} (hb : b < tn a6) : md_VV a0 a6 a7 a8 (nI b) a12 Q s e := by
  obtain ⟨h0, h6, h7, ho, h10, h12, hq, hi, hw, hee⟩ := hv
  exact ⟨h0, h6, h7, ho, Or.inr ⟨nI_ge0 (by omega), by rw [tn_nI (by omega)]; exact hb, h8⟩, h12, hq, hi, hw, hee⟩
theorem VV_eels (hv : md_VV a0 a6 a7 a8 a10 a12 Q s e) (he : ∀ k, k < tn a7 → 0 ≤ e' k ∧ 1 ≤ tn (e' k) ∧ tn (e' k) ≤ 9) : md_VV a0 a6 a7 a8 a10 a12 Q s e' := by
  obtain ⟨h0, h6, h7, ho, h10, h12, hq, hi, hw, hee⟩ := hv
  exact ⟨h0, h6, h7, ho, h10, h12, hq, hi, hw, he⟩
end
