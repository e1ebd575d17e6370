theorem en_L18 {m : Nat} {x : Int32} : ∀ (n : Nat) (I : ow_I) (u c : Nat), (u = if c = 0 then 0 else 10 ^ (c - 1)) → c ≤ 10 → c < n → 0 ≤ I m 17 → tn (I m 17) + c ≤ 200 → 0 ≤ M_emitNumber_L18 m x n I u m 17 ∧ tn (M_emitNumber_L18 m x n I u m 17) = tn (I m 17) + c := by
  intro n
  induction n with
  | zero => intro I u c _ _ h; omega
  | succ n ih =>
    intro I u c hu hc hn hw hb
    simp only [M_emitNumber_L18, lt_eq]
    split
    · rename_i h
      have : c = 0 := by
        rcases Nat.eq_zero_or_pos c with z | z
        · exact z
        · exfalso
          have p := pw_c hu hc
          have hne : u ≠ 0 := fun y => by have := p.2.1.2 y; omega
          rw [Int32.le_iff_toInt_le, nI_toInt p.1] at h
          have z0 : (0 : Int32).toInt = 0 := by decide
          omega
      rw [this]
      exact ⟨hw, rfl⟩
    · rename_i h
      have h1 := pw_1 hu hc h
      have e := fun y => @em_17 m y I hw (by omega)
      have r := ih (M_emit m (nI 48 + (x / nI u - x / nI u / nI 10 * nI 10)) I) (u / 10) (c - 1) ((pw_c hu hc).2.2 h1) (by omega) (by omega) (e _).1 (by rw [(e _).2]; omega)
      rw [(e _).2] at r
      exact ⟨r.1, by omega⟩
theorem en_L2 {m : Nat} {x : Int32} : ∀ (n : Nat) (I : ow_I) (u d : Nat), u = 10 ^ d → d ≤ 9 → 9 - d < n → (d = 0 ∨ ((10 ^ d : Nat) : Int) ≤ x.toInt) → ∃ e, e ≤ 9 ∧ (e = 0 ∨ ((10 ^ e : Nat) : Int) ≤ x.toInt) ∧ M_emitNumber_L2 m x n I u = M_emitNumber_L18 m x 11 I (10 ^ e) := by
  intro n
  induction n with
  | zero => intro I u d _ _ h; omega
  | succ n ih =>
    intro I u d hu hd hn hx
    simp only [M_emitNumber_L2]
    split
    · exact ⟨d, hd, hx, by rw [hu]⟩
    · rename_i h
      have g := dig_8 hd (by rw [← hu]; exact i_nlt h)
      exact ih I (u * 10) (d + 1) (by rw [hu]; rfl) (by omega) (by omega) (Or.inr (by have := g.1; rw [show (((10 : Nat) : Int) ^ (d + 1)) = ((10 ^ (d + 1) : Nat) : Int) by norm_cast] at this; exact this))
theorem en_17 {m D : Nat} {x : Int32} {I : ow_I} (hx : x.toInt < ((10 ^ D : Nat) : Int)) (hD : 1 ≤ D ∧ D ≤ 10) (hw : 0 ≤ I m 17) (hb : tn (I m 17) + 10 ≤ 200) : 0 ≤ M_emitNumber m x I m 17 ∧ tn (M_emitNumber m x I m 17) ≤ tn (I m 17) + D := by
  obtain ⟨e, he, hx2, heq⟩ := en_L2 (m := m) (x := x) 10 I 1 0 rfl (by omega) (by omega) (Or.inl rfl)
  have r := en_L18 (m := m) (x := x) 11 I (10 ^ e) (e + 1) (by rfl) (by omega) (by omega) hw (by omega)
  rw [← heq] at r
  refine ⟨r.1, ?_⟩
  have : tn (M_emitNumber m x I m 17) = tn (I m 17) + (e + 1) := r.2
  rw [this]
  rcases Nat.lt_or_ge e D with z | z
  · omega
  · exfalso
    rcases hx2 with y | y
    · omega
    · have := Nat.pow_le_pow_right (show 0 < 10 by omega) z
      omega
theorem rr_enL18 {m a : Nat} {x : Int32} (h : a ≠ m) (h6 : a ≠ m + 6) : ∀ (n : Nat) (I : ow_I) (u : Nat), M_emitNumber_L18 m x n I u a = I a := by
  intro n
  induction n with
  | zero => intro I u; rfl
  | succ n ih =>
    intro I u
    simp only [M_emitNumber_L18, lt_eq]
    split
    · rfl
    · rw [ih, rr_em h h6]
theorem rr_enL2 {m a : Nat} {x : Int32} (h : a ≠ m) (h6 : a ≠ m + 6) : ∀ (n : Nat) (I : ow_I) (u : Nat), M_emitNumber_L2 m x n I u a = I a := by
  intro n
  induction n with
  | zero => intro I u; rfl
  | succ n ih =>
    intro I u
    simp only [M_emitNumber_L2]
    split
    · rw [rr_enL18 h h6]
    · rw [ih]
theorem rr_en {m a : Nat} {x : Int32} {I : ow_I} (h : a ≠ m) (h6 : a ≠ m + 6) : M_emitNumber m x I a = I a := rr_enL2 h h6 _ _ _
theorem i32_10 {x : Int32} : x.toInt < ((10 ^ 10 : Nat) : Int) := by
  have := Int32.toInt_lt x
  omega
