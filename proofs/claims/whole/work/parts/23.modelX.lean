/-! the reference's texts: what its reading leaves -/
theorem rr_rnL {m a : Nat} (h : a ≠ m) : ∀ (n : Nat) (I : ow_I), M_readNumber_L5 m n I a = I a := by
  intro n
  induction n with
  | zero => intro I; rfl
  | succ n ih =>
    intro I
    funext j
    simp only [M_readNumber_L5, lt_eq]
    (repeat' split) <;> simp [ih, ow_u_a, h]
theorem fr_rnL {m k : Nat} (h8 : k ≠ 8) (h11 : k ≠ 11) : ∀ (n : Nat) (I : ow_I), M_readNumber_L5 m n I m k = I m k := by
  intro n
  induction n with
  | zero => intro I; rfl
  | succ n ih =>
    intro I
    simp only [M_readNumber_L5, lt_eq]
    (repeat' split) <;> simp [ih, ow_u_k, h8, h11]
theorem rr_rt69 {m a : Nat} (h : a ≠ m) : ∀ (n : Nat) (I : ow_I), M_readToken_L69 m n I a = I a := by
  intro n
  induction n with
  | zero => intro I; rfl
  | succ n ih =>
    intro I
    funext j
    simp only [M_readToken_L69, lt_eq]
    (repeat' split) <;> simp [ih, ow_u_a, h]
theorem fr_rt69 {m k : Nat} (h8 : k ≠ 8) : ∀ (n : Nat) (I : ow_I), M_readToken_L69 m n I m k = I m k := by
  intro n
  induction n with
  | zero => intro I; rfl
  | succ n ih =>
    intro I
    simp only [M_readToken_L69, lt_eq]
    (repeat' split) <;> simp [ih, ow_u_k, h8]
theorem rr_rt0 {m a : Nat} (h : a ≠ m) : ∀ (n : Nat) (I : ow_I), M_readToken_L0 m n I a = I a := by
  intro n
  induction n with
  | zero => intro I; rfl
  | succ n ih =>
    intro I
    funext j
    simp only [M_readToken_L0, M_readNumber, lt_eq]
    (repeat' split) <;> simp [ih, ow_u_a, h, rr_rt69 h, rr_rnL h]
theorem fr_rt0 {m k : Nat} (h : k < 8 ∨ 11 < k) : ∀ (n : Nat) (I : ow_I), M_readToken_L0 m n I m k = I m k := by
  have h8 : k ≠ 8 := by omega
  have h9 : k ≠ 9 := by omega
  have h10 : k ≠ 10 := by omega
  have h11 : k ≠ 11 := by omega
  intro n
  induction n with
  | zero => intro I; rfl
  | succ n ih =>
    intro I
    simp only [M_readToken_L0, M_readNumber, lt_eq]
    (repeat' split) <;> simp [ih, ow_u_k, h8, h9, h10, h11, fr_rt69 h8, fr_rnL h8 h11]
theorem rr_readToken {m a : Nat} {I : ow_I} (h : a ≠ m) : M_readToken m I a = I a := rr_rt0 h _ _
theorem fr_readToken {m k : Nat} {I : ow_I} (h : k < 8 ∨ 11 < k) : M_readToken m I m k = I m k := fr_rt0 h _ _
theorem W_rnL {m : Nat} : ∀ (n : Nat) (I : ow_I), md_T m I → tn (I m 5) - tn (I m 8) < n → md_T m (M_readNumber_L5 m n I) ∧ tn (I m 8) ≤ tn (M_readNumber_L5 m n I m 8) := by
  intro n
  induction n with
  | zero => intro I ht hn; omega
  | succ n ih =>
    intro I ht hn
    have g1 := ht.1
    have g2 := ht.2
    simp only [M_readNumber_L5, lt_eq]
    split
    · rename_i hd
      have hlt := isDigit_lt hd
      have key : ∀ J : ow_I, md_T m J → J m 8 = I m 8 → J m 5 = I m 5 → md_T m (M_readNumber_L5 m n (ow_u J m 8 (J m 8 + nI 1))) ∧ tn (I m 8) ≤ tn (M_readNumber_L5 m n (ow_u J m 8 (J m 8 + nI 1)) m 8) := by
        intro J hJ e8 e5
        have hJ2 := mdT_n hJ (by rw [e8, e5]; exact hlt)
        have e1 : tn (ow_u J m 8 (J m 8 + nI 1) m 8) = tn (I m 8) + 1 := by rw [ow_u_s, e8]; exact (tn_inc g2.1 (by omega)).2
        have e2 : ow_u J m 8 (J m 8 + nI 1) m 5 = I m 5 := by rw [ow_u_k _ _ _ _ (by decide)]; exact e5
        have r := ih _ hJ2 (by rw [e1, e2]; omega)
        rw [e1] at r
        exact ⟨r.1, by omega⟩
      split
      · exact key _ (mdT_o ht _ (by decide) (by decide)) (by rw [ow_u_k _ _ _ _ (by decide)]) (by rw [ow_u_k _ _ _ _ (by decide)])
      · exact key _ (mdT_o (mdT_o ht _ (by decide) (by decide)) _ (by decide) (by decide)) (by rw [ow_u_k _ _ _ _ (by decide), ow_u_k _ _ _ _ (by decide)]) (by rw [ow_u_k _ _ _ _ (by decide), ow_u_k _ _ _ _ (by decide)])
    · exact ⟨ht, Nat.le_refl _⟩
theorem W_rt69 {m : Nat} : ∀ (n : Nat) (I : ow_I), md_T m I → tn (I m 5) - tn (I m 8) < n → md_T m (M_readToken_L69 m n I) ∧ tn (I m 8) ≤ tn (M_readToken_L69 m n I m 8) := by
  intro n
  induction n with
  | zero => intro I ht hn; omega
  | succ n ih =>
    intro I ht hn
    have g1 := ht.1
    have g2 := ht.2
    simp only [M_readToken_L69, lt_eq]
    split
    · rename_i hd
      have hlt := isLetter_lt hd
      have hJ2 := mdT_n ht hlt
      have e1 : tn (ow_u I m 8 (I m 8 + nI 1) m 8) = tn (I m 8) + 1 := by rw [ow_u_s]; exact (tn_inc g2.1 (by omega)).2
      have e2 : ow_u I m 8 (I m 8 + nI 1) m 5 = I m 5 := by rw [ow_u_k _ _ _ _ (by decide)]
      have r := ih _ hJ2 (by rw [e1, e2]; omega)
      rw [e1] at r
      exact ⟨r.1, by omega⟩
    · exact ⟨ht, Nat.le_refl _⟩
theorem readNumber_eq {m : Nat} {I : ow_I} : M_readNumber m I = M_readNumber_L5 m 501 (ow_u I m 11 (nI 0)) := by simp only [M_readNumber, lt_eq]
theorem fr10_rnL {m : Nat} (n : Nat) (I : ow_I) : M_readNumber_L5 m n I m 10 = I m 10 := fr_rnL (by decide) (by decide) n I
theorem fr10_69 {m : Nat} (n : Nat) (I : ow_I) : M_readToken_L69 m n I m 10 = I m 10 := fr_rt69 (by decide) n I
theorem W_rt0 {m : Nat} : ∀ (n : Nat) (I : ow_I), md_T m I → tn (I m 5) - tn (I m 8) < n → md_W m (M_readToken_L0 m n I) := by
  intro n
  induction n with
  | zero => intro I ht hn; omega
  | succ n ih =>
    intro I ht hn
    have g1 := ht.1
    have g2 := ht.2
    simp only [M_readToken_L0, lt_eq]
    have hA : ∀ (J : ow_I), md_T m J → J m 10 = I m 8 → J m 8 = I m 8 → md_W m J := fun J hJ e10 e8 => ⟨hJ, by rw [e10]; exact g2.1, by rw [e10, e8]; exact Nat.le_refl _⟩
    have hB : ∀ (J : ow_I), md_T m J → J m 10 = I m 8 → J m 8 = I m 8 → J m 5 = I m 5 → ¬ I m 8 = I m 5 → md_W m (ow_u J m 8 (J m 8 + nI 1)) := by
      intro J hJ e10 e8 e5 hne
      have hlt : tn (J m 8) < tn (J m 5) := by
        rw [e8, e5]
        rcases Nat.lt_or_ge (tn (I m 8)) (tn (I m 5)) with q | q
        · exact q
        · exact absurd (by rw [← nI_tn g2.1, ← nI_tn g1.1, show tn (I m 8) = tn (I m 5) by omega]) hne
      have h2 := mdT_n hJ hlt
      refine ⟨h2, ?_, ?_⟩
      · rw [ow_u_k _ _ _ _ (by decide), e10]; exact g2.1
      · rw [ow_u_k _ _ _ _ (by decide), e10, ow_u_s, e8, (tn_inc g2.1 (by omega)).2]; omega
    split
    · rename_i hd
      have hlt := byteAt_lt (m := m) (n := tn (I m 8)) (I := I) (by rw [hd]; decide)
      have hJ2 := mdT_n ht hlt
      have e1 : tn (ow_u I m 8 (I m 8 + nI 1) m 8) = tn (I m 8) + 1 := by rw [ow_u_s]; exact (tn_inc g2.1 (by omega)).2
      have e2 : ow_u I m 8 (I m 8 + nI 1) m 5 = I m 5 := by rw [ow_u_k _ _ _ _ (by decide)]
      exact ih _ hJ2 (by rw [e1, e2]; omega)
    · have hT1 : ∀ x : Int32, md_T m (ow_u (ow_u I m 10 (I m 8)) m 9 x) := fun x => mdT_o (mdT_o ht _ (by decide) (by decide)) _ (by decide) (by decide)
      have f10 : ∀ x : Int32, ow_u (ow_u I m 10 (I m 8)) m 9 x m 10 = I m 8 := fun x => by rw [ow_u_k _ _ _ _ (by decide), ow_u_s]
      have f8 : ∀ x : Int32, ow_u (ow_u I m 10 (I m 8)) m 9 x m 8 = I m 8 := fun x => by rw [ow_u_k _ _ _ _ (by decide), ow_u_k _ _ _ _ (by decide)]
      have f5 : ∀ x : Int32, ow_u (ow_u I m 10 (I m 8)) m 9 x m 5 = I m 5 := fun x => by rw [ow_u_k _ _ _ _ (by decide), ow_u_k _ _ _ _ (by decide)]
      split
      · exact hA _ (hT1 _) (f10 _) (f8 _)
      · rename_i hne
        have hne : ¬ I m 8 = I m 5 := by
          rw [ow_u_k _ _ _ _ (by decide), ow_u_k _ _ _ _ (by decide)] at hne
          exact hne
        split
        · have r := W_rt69 501 _ (hT1 (nI 1)) (by rw [f5, f8]; omega)
          refine ⟨r.1, ?_, ?_⟩
          · rw [fr10_69, f10]; exact g2.1
          · rw [fr10_69, f10]; have := r.2; rw [f8] at this; exact this
        · split
          · have hT2 : md_T m (ow_u (ow_u (ow_u I m 10 (I m 8)) m 9 (nI 2)) m 11 (nI 0)) := mdT_o (hT1 _) _ (by decide) (by decide)
            have e8 : ow_u (ow_u (ow_u I m 10 (I m 8)) m 9 (nI 2)) m 11 (nI 0) m 8 = I m 8 := by rw [ow_u_k _ _ _ _ (by decide), f8]
            have e5 : ow_u (ow_u (ow_u I m 10 (I m 8)) m 9 (nI 2)) m 11 (nI 0) m 5 = I m 5 := by rw [ow_u_k _ _ _ _ (by decide), f5]
            have e10 : ow_u (ow_u (ow_u I m 10 (I m 8)) m 9 (nI 2)) m 11 (nI 0) m 10 = I m 8 := by rw [ow_u_k _ _ _ _ (by decide), f10]
            have r := W_rnL 501 _ hT2 (by rw [e5, e8]; omega)
            rw [readNumber_eq]
            refine ⟨r.1, ?_, ?_⟩
            · rw [fr10_rnL, e10]; exact g2.1
            · rw [fr10_rnL, e10]; have := r.2; rw [e8] at this; exact this
          · split
            · exact hB _ (hT1 _) (f10 _) (f8 _) (f5 _) hne
            · exact hB _ (hT1 _) (f10 _) (f8 _) (f5 _) hne
theorem W_readToken {m : Nat} {I : ow_I} (ht : md_T m I) : md_W m (M_readToken m I) := W_rt0 501 I ht (by have := ht.1; omega)
theorem mdW_row {m : Nat} {I J : ow_I} (hw : md_W m I) (h : J m = I m) : md_W m J := by
  unfold md_W md_T at hw ⊢
  rw [h]
  exact hw
theorem mdT_row {m : Nat} {I J : ow_I} (hw : md_T m I) (h : J m = I m) : md_T m J := by
  unfold md_T at hw ⊢
  rw [h]
  exact hw
theorem mdW_o {m : Nat} {I : ow_I} (ht : md_W m I) {k : Nat} (x : Int32) (h5 : k ≠ 5) (h8 : k ≠ 8) (h10 : k ≠ 10) : md_W m (ow_u I m k x) := by
  refine ⟨mdT_o ht.1 x h5 h8, ?_, ?_⟩
  · rw [ow_u_k _ _ _ _ (Ne.symm h10)]; exact ht.2.1
  · rw [ow_u_k _ _ _ _ (Ne.symm h10), ow_u_k _ _ _ _ (Ne.symm h8)]; exact ht.2.2
theorem fr_fails {m k : Nat} {c : Int32} {I : ow_I} (h : k < 6 ∨ 7 < k) : (M_fails m c I).2 m k = I m k := by
  simp (disch := omega) only [M_fails, lt_eq, ow_u_k]
theorem rr_fails {m a : Nat} {c : Int32} {I : ow_I} (h : a ≠ m) : (M_fails m c I).2 a = I a := by
  funext j
  simp only [M_fails, lt_eq, ow_u_a _ _ _ _ h]
theorem W_fails {m : Nat} {c : Int32} {I : ow_I} (hw : md_W m I) : md_W m (M_fails m c I).2 := mdW_o (mdW_o hw _ (by decide) (by decide) (by decide)) _ (by decide) (by decide) (by decide)
