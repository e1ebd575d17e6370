section
/-! the reference's texts: what its reading keeps -/
def md_T (m : Nat) (I : ow_I) : Prop := (0 ≤ I m 5 ∧ tn (I m 5) ≤ 500) ∧ (0 ≤ I m 8 ∧ tn (I m 8) ≤ tn (I m 5))
def md_W (m : Nat) (I : ow_I) : Prop := md_T m I ∧ 0 ≤ I m 10 ∧ tn (I m 10) ≤ tn (I m 8)
theorem byteAt_lt {m n : Nat} {I : ow_I} (h : ¬ M_byteAt m n I = -1000) : n < tn (I m 5) := by
  by_cases q : tn (I m 5) ≤ n
  · exact absurd (by simp [M_byteAt, q]) h
  · omega
theorem isLetter_lt {m n : Nat} {I : ow_I} (h : M_isLetter m n I = true) : n < tn (I m 5) := by
  by_cases q : tn (I m 5) ≤ n
  · have e : M_byteAt m n I = -1000 := by simp [M_byteAt, q]
    unfold M_isLetter at h
    rw [e] at h
    exact absurd h (by unfold M_in; decide)
  · omega
theorem isDigit_lt {m n : Nat} {I : ow_I} (h : M_isDigit m n I = true) : n < tn (I m 5) := by
  by_cases q : tn (I m 5) ≤ n
  · have e : M_byteAt m n I = -1000 := by simp [M_byteAt, q]
    unfold M_isDigit at h
    rw [e] at h
    exact absurd h (by unfold M_in; decide)
  · omega
theorem mdT_o {m : Nat} {I : ow_I} (ht : md_T m I) {k : Nat} (x : Int32) (h5 : k ≠ 5) (h8 : k ≠ 8) : md_T m (ow_u I m k x) := by
  unfold md_T
  rw [ow_u_k _ _ _ _ (Ne.symm h5), ow_u_k _ _ _ _ (Ne.symm h8)]
  exact ht
theorem mdT_n {m : Nat} {I : ow_I} (ht : md_T m I) (h : tn (I m 8) < tn (I m 5)) : md_T m (ow_u I m 8 (I m 8 + nI 1)) := by
  obtain ⟨h1, h2⟩ := ht
  unfold md_T
  rw [ow_u_k _ _ _ _ (by decide), ow_u_s, (tn_inc h2.1 (by omega)).2]
  exact ⟨h1, (tn_inc h2.1 (by omega)).1, by omega⟩
theorem mdT_a {m a k : Nat} {I : ow_I} (ht : md_T m I) (x : Int32) (h : m ≠ a) : md_T m (ow_u I a k x) := by
  unfold md_T
  rw [ow_u_a _ _ _ _ h, ow_u_a _ _ _ _ h]
  exact ht
end
section
def M_readNumber_L5 (m : Nat) : Nat → ow_I → ow_I
  | 0, I => I
  | n + 1, I => if M_isDigit m (tn (I m 8)) I then lt (ow_u I m 11 ((I m 11) * (nI 10) + (I (m + 3) (tn (I m 8))) - (nI 48))) (fun (I2 : ow_I) => if I2 m 11 ≤ nI 10000000 then lt (ow_u I2 m 8 (I2 m 8 + (nI 1))) (fun (I3 : ow_I) => M_readNumber_L5 m n I3 ) else lt (ow_u I2 m 11 (nI 10000000)) (fun (I4 : ow_I) => lt (ow_u I4 m 8 (I4 m 8 + (nI 1))) (fun (I5 : ow_I) => M_readNumber_L5 m n I5 ))) else I
def M_readNumber (m : Nat) (I : ow_I) : ow_I :=
  lt (ow_u I m 11 (nI 0)) (fun (I1 : ow_I) => M_readNumber_L5 m 501 I1 )
def M_readToken_L69 (m : Nat) : Nat → ow_I → ow_I
  | 0, I => I
  | n + 1, I => if M_isLetter m (tn (I m 8)) I then lt (ow_u I m 8 (I m 8 + (nI 1))) (fun (I9 : ow_I) => M_readToken_L69 m n I9 ) else I
def M_readToken_L0 (m : Nat) : Nat → ow_I → ow_I
  | 0, I => I
  | n + 1, I => if M_byteAt m (tn (I m 8)) I = nI 32 then lt (ow_u I m 8 (I m 8 + (nI 1))) (fun (I11 : ow_I) => M_readToken_L0 m n I11 ) else lt (ow_u I m 10 (I m 8)) (fun (I1 : ow_I) => if I1 m 8 = I1 m 5 then lt (ow_u I1 m 9 (nI 0)) (fun (I10 : ow_I) => I10) else if M_isLetter m (tn (I m 8)) I1 then lt (ow_u I1 m 9 (nI 1)) (fun (I8 : ow_I) => M_readToken_L69 m 501 I8 ) else if M_isDigit m (tn (I m 8)) I1 then lt (ow_u I1 m 9 (nI 2)) (fun (I6 : ow_I) => lt (M_readNumber m I6) (fun (I7 : ow_I) => I7)) else if M_byteAt m (tn (I m 8)) I1 = nI 59 then lt (ow_u I1 m 9 (nI 3)) (fun (I4 : ow_I) => lt (ow_u I4 m 8 (I4 m 8 + (nI 1))) (fun (I5 : ow_I) => I5)) else lt (ow_u I1 m 9 (nI 4)) (fun (I2 : ow_I) => lt (ow_u I2 m 8 (I2 m 8 + (nI 1))) (fun (I3 : ow_I) => I3)))
def M_readToken (m : Nat) (I : ow_I) : ow_I :=
  M_readToken_L0 m 501 I 
end
section
def M_isWordNumber_L20 (m : Nat) (w : Nat) : Nat → ow_I → Nat → Nat → Bool
  | 0, I, _, _ => default
  | n + 1, I, l, i => if 8 ≤ i then true else if l ≤ i then if I (m + 7) (8 * w + i) = nI 32 then M_isWordNumber_L20 m w n I l (i + 1) else false else if I (m + 3) (tn (I m 10) + i) = I (m + 7) (8 * w + i) then M_isWordNumber_L20 m w n I l (i + 1) else false
def M_isWordNumber (m : Nat) (w : Nat) (I : ow_I) : Bool :=
  if (tn (I m 8)) - (tn (I m 10)) ≤ 8 then M_isWordNumber_L20 m w 9 I ((tn (I m 8)) - (tn (I m 10))) 0 else false
def M_wordOf_L13 (m : Nat) : Nat → ow_I → Nat → Int32
  | 0, I, _ => default
  | n + 1, I, i => if 8 ≤ i then nI 8 else if M_isWordNumber m i I then nI i else M_wordOf_L13 m n I (i + 1)
def M_wordOf (m : Nat) (I : ow_I) : Int32 :=
  if I m 9 = nI 1 then M_wordOf_L13 m 9 I 0 else nI 8
def M_fails (m : Nat) (c : Int32) (I : ow_I) : Bool × ow_I :=
  lt (ow_u I m 6 c) (fun (I1 : ow_I) => lt (ow_u I1 m 7 (I1 m 10)) (fun (I2 : ow_I) => (true, I2)))
def M_beginText (m : Nat) (I : ow_I) : ow_I :=
  lt (ow_u I m 8 (nI 0)) (fun (I1 : ow_I) => lt (ow_u I1 m 6 (nI 0)) (fun (I2 : ow_I) => lt (ow_u I2 m 7 ((-1))) (fun (I3 : ow_I) => lt (ow_u I3 m 15 (nI 0)) (fun (I4 : ow_I) => lt (M_readToken m I4) (fun (I5 : ow_I) => I5)))))
end
section
/-! the reference's texts: what its reading leaves -/
theorem rr_rnL {m a : Nat} (h : a ≠ m) : ∀ (n : Nat) (I : ow_I), M_readNumber_L5 m n I a = I a := by
  intro n
  induction n with
  | zero => intro I; rfl
  | succ n ih =>
    intro I
    funext j
    simp only [M_readNumber_L5, lt_eq]
    (repeat' split) <;> simp [ih, ow_u_a, h]
theorem fr_rnL {m k : Nat} (h8 : k ≠ 8) (h11 : k ≠ 11) : ∀ (n : Nat) (I : ow_I), M_readNumber_L5 m n I m k = I m k := by
  intro n
  induction n with
  | zero => intro I; rfl
  | succ n ih =>
    intro I
    simp only [M_readNumber_L5, lt_eq]
    (repeat' split) <;> simp [ih, ow_u_k, h8, h11]
theorem rr_rt69 {m a : Nat} (h : a ≠ m) : ∀ (n : Nat) (I : ow_I), M_readToken_L69 m n I a = I a := by
  intro n
  induction n with
  | zero => intro I; rfl
  | succ n ih =>
    intro I
    funext j
    simp only [M_readToken_L69, lt_eq]
    (repeat' split) <;> simp [ih, ow_u_a, h]
theorem fr_rt69 {m k : Nat} (h8 : k ≠ 8) : ∀ (n : Nat) (I : ow_I), M_readToken_L69 m n I m k = I m k := by
  intro n
  induction n with
  | zero => intro I; rfl
  | succ n ih =>
    intro I
    simp only [M_readToken_L69, lt_eq]
    (repeat' split) <;> simp [ih, ow_u_k, h8]
theorem rr_rt0 {m a : Nat} (h : a ≠ m) : ∀ (n : Nat) (I : ow_I), M_readToken_L0 m n I a = I a := by
  intro n
  induction n with
  | zero => intro I; rfl
  | succ n ih =>
    intro I
    funext j
    simp only [M_readToken_L0, M_readNumber, lt_eq]
    (repeat' split) <;> simp [ih, ow_u_a, h, rr_rt69 h, rr_rnL h]
theorem fr_rt0 {m k : Nat} (h : k < 8 ∨ 11 < k) : ∀ (n : Nat) (I : ow_I), M_readToken_L0 m n I m k = I m k := by
  have h8 : k ≠ 8 := by omega
  have h9 : k ≠ 9 := by omega
  have h10 : k ≠ 10 := by omega
  have h11 : k ≠ 11 := by omega
  intro n
  induction n with
  | zero => intro I; rfl
  | succ n ih =>
    intro I
    simp only [M_readToken_L0, M_readNumber, lt_eq]
    (repeat' split) <;> simp [ih, ow_u_k, h8, h9, h10, h11, fr_rt69 h8, fr_rnL h8 h11]
theorem rr_readToken {m a : Nat} {I : ow_I} (h : a ≠ m) : M_readToken m I a = I a := rr_rt0 h _ _
theorem fr_readToken {m k : Nat} {I : ow_I} (h : k < 8 ∨ 11 < k) : M_readToken m I m k = I m k := fr_rt0 h _ _
theorem W_rnL {m : Nat} : ∀ (n : Nat) (I : ow_I), md_T m I → tn (I m 5) - tn (I m 8) < n → md_T m (M_readNumber_L5 m n I) ∧ tn (I m 8) ≤ tn (M_readNumber_L5 m n I m 8) := by
  intro n
  induction n with
  | zero => intro I ht hn; omega
  | succ n ih =>
    intro I ht hn
    have g1 := ht.1
    have g2 := ht.2
    simp only [M_readNumber_L5, lt_eq]
    split
    · rename_i hd
      have hlt := isDigit_lt hd
      have key : ∀ J : ow_I, md_T m J → J m 8 = I m 8 → J m 5 = I m 5 → md_T m (M_readNumber_L5 m n (ow_u J m 8 (J m 8 + nI 1))) ∧ tn (I m 8) ≤ tn (M_readNumber_L5 m n (ow_u J m 8 (J m 8 + nI 1)) m 8) := by
        intro J hJ e8 e5
        have hJ2 := mdT_n hJ (by rw [e8, e5]; exact hlt)
        have e1 : tn (ow_u J m 8 (J m 8 + nI 1) m 8) = tn (I m 8) + 1 := by rw [ow_u_s, e8]; exact (tn_inc g2.1 (by omega)).2
        have e2 : ow_u J m 8 (J m 8 + nI 1) m 5 = I m 5 := by rw [ow_u_k _ _ _ _ (by decide)]; exact e5
        have r := ih _ hJ2 (by rw [e1, e2]; omega)
        rw [e1] at r
        exact ⟨r.1, by omega⟩
      split
      · exact key _ (mdT_o ht _ (by decide) (by decide)) (by rw [ow_u_k _ _ _ _ (by decide)]) (by rw [ow_u_k _ _ _ _ (by decide)])
      · exact key _ (mdT_o (mdT_o ht _ (by decide) (by decide)) _ (by decide) (by decide)) (by rw [ow_u_k _ _ _ _ (by decide), ow_u_k _ _ _ _ (by decide)]) (by rw [ow_u_k _ _ _ _ (by decide), ow_u_k _ _ _ _ (by decide)])
    · exact ⟨ht, Nat.le_refl _⟩
theorem W_rt69 {m : Nat} : ∀ (n : Nat) (I : ow_I), md_T m I → tn (I m 5) - tn (I m 8) < n → md_T m (M_readToken_L69 m n I) ∧ tn (I m 8) ≤ tn (M_readToken_L69 m n I m 8) := by
  intro n
  induction n with
  | zero => intro I ht hn; omega
  | succ n ih =>
    intro I ht hn
    have g1 := ht.1
    have g2 := ht.2
    simp only [M_readToken_L69, lt_eq]
    split
    · rename_i hd
      have hlt := isLetter_lt hd
      have hJ2 := mdT_n ht hlt
      have e1 : tn (ow_u I m 8 (I m 8 + nI 1) m 8) = tn (I m 8) + 1 := by rw [ow_u_s]; exact (tn_inc g2.1 (by omega)).2
      have e2 : ow_u I m 8 (I m 8 + nI 1) m 5 = I m 5 := by rw [ow_u_k _ _ _ _ (by decide)]
      have r := ih _ hJ2 (by rw [e1, e2]; omega)
      rw [e1] at r
      exact ⟨r.1, by omega⟩
    · exact ⟨ht, Nat.le_refl _⟩
theorem readNumber_eq {m : Nat} {I : ow_I} : M_readNumber m I = M_readNumber_L5 m 501 (ow_u I m 11 (nI 0)) := by simp only [M_readNumber, lt_eq]
theorem fr10_rnL {m : Nat} (n : Nat) (I : ow_I) : M_readNumber_L5 m n I m 10 = I m 10 := fr_rnL (by decide) (by decide) n I
theorem fr10_69 {m : Nat} (n : Nat) (I : ow_I) : M_readToken_L69 m n I m 10 = I m 10 := fr_rt69 (by decide) n I
theorem W_rt0 {m : Nat} : ∀ (n : Nat) (I : ow_I), md_T m I → tn (I m 5) - tn (I m 8) < n → md_W m (M_readToken_L0 m n I) := by
  intro n
  induction n with
  | zero => intro I ht hn; omega
  | succ n ih =>
    intro I ht hn
    have g1 := ht.1
    have g2 := ht.2
    simp only [M_readToken_L0, lt_eq]
    have hA : ∀ (J : ow_I), md_T m J → J m 10 = I m 8 → J m 8 = I m 8 → md_W m J := fun J hJ e10 e8 => ⟨hJ, by rw [e10]; exact g2.1, by rw [e10, e8]; exact Nat.le_refl _⟩
    have hB : ∀ (J : ow_I), md_T m J → J m 10 = I m 8 → J m 8 = I m 8 → J m 5 = I m 5 → ¬ I m 8 = I m 5 → md_W m (ow_u J m 8 (J m 8 + nI 1)) := by
      intro J hJ e10 e8 e5 hne
      have hlt : tn (J m 8) < tn (J m 5) := by
        rw [e8, e5]
        rcases Nat.lt_or_ge (tn (I m 8)) (tn (I m 5)) with q | q
        · exact q
        · exact absurd (by rw [← nI_tn g2.1, ← nI_tn g1.1, show tn (I m 8) = tn (I m 5) by omega]) hne
      have h2 := mdT_n hJ hlt
      refine ⟨h2, ?_, ?_⟩
      · rw [ow_u_k _ _ _ _ (by decide), e10]; exact g2.1
      · rw [ow_u_k _ _ _ _ (by decide), e10, ow_u_s, e8, (tn_inc g2.1 (by omega)).2]; omega
    split
    · rename_i hd
      have hlt := byteAt_lt (m := m) (n := tn (I m 8)) (I := I) (by rw [hd]; decide)
      have hJ2 := mdT_n ht hlt
      have e1 : tn (ow_u I m 8 (I m 8 + nI 1) m 8) = tn (I m 8) + 1 := by rw [ow_u_s]; exact (tn_inc g2.1 (by omega)).2
      have e2 : ow_u I m 8 (I m 8 + nI 1) m 5 = I m 5 := by rw [ow_u_k _ _ _ _ (by decide)]
      exact ih _ hJ2 (by rw [e1, e2]; omega)
    · have hT1 : ∀ x : Int32, md_T m (ow_u (ow_u I m 10 (I m 8)) m 9 x) := fun x => mdT_o (mdT_o ht _ (by decide) (by decide)) _ (by decide) (by decide)
      have f10 : ∀ x : Int32, ow_u (ow_u I m 10 (I m 8)) m 9 x m 10 = I m 8 := fun x => by rw [ow_u_k _ _ _ _ (by decide), ow_u_s]
      have f8 : ∀ x : Int32, ow_u (ow_u I m 10 (I m 8)) m 9 x m 8 = I m 8 := fun x => by rw [ow_u_k _ _ _ _ (by decide), ow_u_k _ _ _ _ (by decide)]
      have f5 : ∀ x : Int32, ow_u (ow_u I m 10 (I m 8)) m 9 x m 5 = I m 5 := fun x => by rw [ow_u_k _ _ _ _ (by decide), ow_u_k _ _ _ _ (by decide)]
      split
      · exact hA _ (hT1 _) (f10 _) (f8 _)
      · rename_i hne
        have hne : ¬ I m 8 = I m 5 := by
          rw [ow_u_k _ _ _ _ (by decide), ow_u_k _ _ _ _ (by decide)] at hne
          exact hne
        split
        · have r := W_rt69 501 _ (hT1 (nI 1)) (by rw [f5, f8]; omega)
          refine ⟨r.1, ?_, ?_⟩
          · rw [fr10_69, f10]; exact g2.1
          · rw [fr10_69, f10]; have := r.2; rw [f8] at this; exact this
        · split
          · have hT2 : md_T m (ow_u (ow_u (ow_u I m 10 (I m 8)) m 9 (nI 2)) m 11 (nI 0)) := mdT_o (hT1 _) _ (by decide) (by decide)
            have e8 : ow_u (ow_u (ow_u I m 10 (I m 8)) m 9 (nI 2)) m 11 (nI 0) m 8 = I m 8 := by rw [ow_u_k _ _ _ _ (by decide), f8]
            have e5 : ow_u (ow_u (ow_u I m 10 (I m 8)) m 9 (nI 2)) m 11 (nI 0) m 5 = I m 5 := by rw [ow_u_k _ _ _ _ (by decide), f5]
            have e10 : ow_u (ow_u (ow_u I m 10 (I m 8)) m 9 (nI 2)) m 11 (nI 0) m 10 = I m 8 := by rw [ow_u_k _ _ _ _ (by decide), f10]
            have r := W_rnL 501 _ hT2 (by rw [e5, e8]; omega)
            rw [readNumber_eq]
            refine ⟨r.1, ?_, ?_⟩
            · rw [fr10_rnL, e10]; exact g2.1
            · rw [fr10_rnL, e10]; have := r.2; rw [e8] at this; exact this
          · split
            · exact hB _ (hT1 _) (f10 _) (f8 _) (f5 _) hne
            · exact hB _ (hT1 _) (f10 _) (f8 _) (f5 _) hne
theorem W_readToken {m : Nat} {I : ow_I} (ht : md_T m I) : md_W m (M_readToken m I) := W_rt0 501 I ht (by have := ht.1; omega)
theorem mdW_row {m : Nat} {I J : ow_I} (hw : md_W m I) (h : J m = I m) : md_W m J := by
  unfold md_W md_T at hw ⊢
  rw [h]
  exact hw
theorem mdT_row {m : Nat} {I J : ow_I} (hw : md_T m I) (h : J m = I m) : md_T m J := by
  unfold md_T at hw ⊢
  rw [h]
  exact hw
theorem mdW_o {m : Nat} {I : ow_I} (ht : md_W m I) {k : Nat} (x : Int32) (h5 : k ≠ 5) (h8 : k ≠ 8) (h10 : k ≠ 10) : md_W m (ow_u I m k x) := by
  refine ⟨mdT_o ht.1 x h5 h8, ?_, ?_⟩
  · rw [ow_u_k _ _ _ _ (Ne.symm h10)]; exact ht.2.1
  · rw [ow_u_k _ _ _ _ (Ne.symm h10), ow_u_k _ _ _ _ (Ne.symm h8)]; exact ht.2.2
theorem fr_fails {m k : Nat} {c : Int32} {I : ow_I} (h : k < 6 ∨ 7 < k) : (M_fails m c I).2 m k = I m k := by
  simp (disch := omega) only [M_fails, lt_eq, ow_u_k]
theorem rr_fails {m a : Nat} {c : Int32} {I : ow_I} (h : a ≠ m) : (M_fails m c I).2 a = I a := by
  funext j
  simp only [M_fails, lt_eq, ow_u_a _ _ _ _ h]
theorem W_fails {m : Nat} {c : Int32} {I : ow_I} (hw : md_W m I) : md_W m (M_fails m c I).2 := mdW_o (mdW_o hw _ (by decide) (by decide) (by decide)) _ (by decide) (by decide) (by decide)
end
section
def M_failsAtThis (m : Nat) (p : Nat) (lo : Int32) (hi : Int32) (I : ow_I) : Bool × ow_I :=
  if I m 9 = nI 2 then if M_in (I m 11) lo hi I then lt (ow_u I (m + 4) p (I m 11)) (fun (I1 : ow_I) => (false, I1)) else lt (M_fails m (nI 2) I) (fun (r2 : Bool × ow_I) => (r2.1, r2.2)) else lt (M_fails m (nI 1) I) (fun (r3 : Bool × ow_I) => (r3.1, r3.2))
def M_failsAtNumber (m : Nat) (p : Nat) (lo : Int32) (hi : Int32) (I : ow_I) : Bool × ow_I :=
  lt (M_readToken m I) (fun (I1 : ow_I) => lt (M_failsAtThis m p lo hi I1) (fun (r2 : Bool × ow_I) => (r2.1, r2.2)))
def M_failsAtEnd (m : Nat) (I : ow_I) : Bool × ow_I :=
  if I m 9 = nI 3 then lt (M_readToken m I) (fun (I1 : ow_I) => (false, I1)) else lt (M_fails m (nI 1) I) (fun (r2 : Bool × ow_I) => (r2.1, r2.2))
def M_failsAtNext (m : Nat) (I : ow_I) : Bool × ow_I :=
  lt (M_readToken m I) (fun (I1 : ow_I) => lt (M_failsAtEnd m I1) (fun (r2 : Bool × ow_I) => (r2.1, r2.2)))
def M_beginMarket_L3 (m : Nat) (a0 : Int32) (a1 : Int32) (a2 : Int32) (a3 : Int32) (a4 : Int32) : Nat → ow_I → Nat → ow_I
  | 0, I, _ => I
  | n + 1, I, i => if 370 ≤ i then lt (ow_u I (m + 1) 0 a0) (fun (I1 : ow_I) => lt (ow_u I1 (m + 1) 1 a1) (fun (I2 : ow_I) => lt (ow_u I2 (m + 1) 2 a2) (fun (I3 : ow_I) => lt (ow_u I3 (m + 1) 3 a3) (fun (I4 : ow_I) => lt (ow_u I4 (m + 1) 4 a4) (fun (I5 : ow_I) => lt (ow_u I5 (m + 1) 8 ((-1))) (fun (I6 : ow_I) => lt (ow_u I6 (m + 1) 10 ((-1))) (fun (I7 : ow_I) => I7))))))) else lt (ow_u I (m + 1) i (nI 0)) (fun (I8 : ow_I) => M_beginMarket_L3 m a0 a1 a2 a3 a4 n I8 (i + 1))
def M_beginMarket (m : Nat) (a0 : Int32) (a1 : Int32) (a2 : Int32) (a3 : Int32) (a4 : Int32) (I : ow_I) : ow_I :=
  M_beginMarket_L3 m a0 a1 a2 a3 a4 371 I 0
end
section
theorem fr_this {m p k : Nat} {lo hi : Int32} {I : ow_I} (h : k < 6 ∨ 7 < k) : (M_failsAtThis m p lo hi I).2 m k = I m k := by
  simp only [M_failsAtThis, lt_eq]
  (repeat' split) <;> simp (disch := omega) only [fr_fails, ow_u_a]
theorem rr_this {m p a : Nat} {lo hi : Int32} {I : ow_I} (h : a ≠ m) (h4 : a ≠ m + 4) : (M_failsAtThis m p lo hi I).2 a = I a := by
  funext j
  simp only [M_failsAtThis, lt_eq]
  (repeat' split) <;> simp (disch := omega) only [rr_fails, ow_u_a]
theorem W_this {m p : Nat} {lo hi : Int32} {I : ow_I} (hw : md_W m I) : md_W m (M_failsAtThis m p lo hi I).2 := by
  simp only [M_failsAtThis, lt_eq]
  (repeat' split)
  · exact mdW_row hw (by funext j; exact ow_u_a _ _ _ _ (by omega) j)
  · exact W_fails hw
  · exact W_fails hw
theorem fr_num {m p k : Nat} {lo hi : Int32} {I : ow_I} (h : k < 6 ∨ 11 < k) : (M_failsAtNumber m p lo hi I).2 m k = I m k := by
  simp (disch := omega) only [M_failsAtNumber, lt_eq, fr_this, fr_readToken]
theorem rr_num {m p a : Nat} {lo hi : Int32} {I : ow_I} (h : a ≠ m) (h4 : a ≠ m + 4) : (M_failsAtNumber m p lo hi I).2 a = I a := by
  simp only [M_failsAtNumber, lt_eq, rr_this h h4, rr_readToken h]
theorem W_num {m p : Nat} {lo hi : Int32} {I : ow_I} (ht : md_T m I) : md_W m (M_failsAtNumber m p lo hi I).2 := W_this (W_readToken ht)
theorem fr_end {m k : Nat} {I : ow_I} (h : k < 6 ∨ 11 < k) : (M_failsAtEnd m I).2 m k = I m k := by
  simp only [M_failsAtEnd, lt_eq]
  (repeat' split) <;> simp (disch := omega) only [fr_fails, fr_readToken]
theorem rr_end {m a : Nat} {I : ow_I} (h : a ≠ m) : (M_failsAtEnd m I).2 a = I a := by
  simp only [M_failsAtEnd, lt_eq]
  (repeat' split) <;> simp only [rr_fails h, rr_readToken h]
theorem W_end {m : Nat} {I : ow_I} (hw : md_W m I) : md_W m (M_failsAtEnd m I).2 := by
  simp only [M_failsAtEnd, lt_eq]
  (repeat' split)
  · exact W_readToken hw.1
  · exact W_fails hw
theorem fr_next {m k : Nat} {I : ow_I} (h : k < 6 ∨ 11 < k) : (M_failsAtNext m I).2 m k = I m k := by
  simp (disch := omega) only [M_failsAtNext, lt_eq, fr_end, fr_readToken]
theorem rr_next {m a : Nat} {I : ow_I} (h : a ≠ m) : (M_failsAtNext m I).2 a = I a := by
  simp only [M_failsAtNext, lt_eq, rr_end h, rr_readToken h]
theorem W_next {m : Nat} {I : ow_I} (ht : md_T m I) : md_W m (M_failsAtNext m I).2 := W_end (W_readToken ht)
theorem rr_bmL {m a : Nat} {a0 a1 a2 a3 a4 : Int32} (h : a ≠ m + 1) : ∀ (n : Nat) (I : ow_I) (i : Nat), M_beginMarket_L3 m a0 a1 a2 a3 a4 n I i a = I a := by
  intro n
  induction n with
  | zero => intro I i; rfl
  | succ n ih =>
    intro I i
    funext j
    simp only [M_beginMarket_L3, lt_eq]
    (repeat' split) <;> simp [ih, ow_u_a, h]
theorem rr_begin {m a : Nat} {a0 a1 a2 a3 a4 : Int32} {I : ow_I} (h : a ≠ m + 1) : M_beginMarket m a0 a1 a2 a3 a4 I a = I a := rr_bmL h _ _ _
theorem rr_put {m b w a : Nat} {x : Int32} {I : ow_I} (h : a ≠ m + 1) : M_put m b w x I a = I a := by
  funext j; exact ow_u_a _ _ _ _ h j
theorem rr_putB {m b w a : Nat} {x : Int32} {I : ow_I} (h : a ≠ m + 1) : M_putBarrel m b w x I a = I a := by
  funext j; exact ow_u_a _ _ _ _ h j
theorem rr_u {f : ow_I} {a b k : Nat} {x : Int32} (h : a ≠ b) : ow_u f b k x a = f a := by
  funext j; exact ow_u_a _ _ _ _ h j
theorem rr_addBuyer {m a : Nat} {p s f : Int32} {I : ow_I} (h : a ≠ m + 1) : M_addBuyer m p s f I a = I a := by
  simp only [M_addBuyer, lt_eq, rr_u h, rr_put h]
theorem rr_enqueue {m b a : Nat} {I : ow_I} (h : a ≠ m + 1) : M_enqueue m b I a = I a := by
  simp only [M_enqueue, lt_eq, rr_u h, rr_putB h]
theorem rr_newBarrel {m a : Nat} {r : Int32} {I : ow_I} (h : a ≠ m + 1) : (M_newBarrel m r I).2 a = I a := by
  simp only [M_newBarrel, lt_eq, rr_u h, rr_putB h, rr_enqueue h]
theorem rr_addEel {m b a : Nat} {x : Int32} {I : ow_I} (h : a ≠ m + 1) : M_addEel m b x I a = I a := by
  simp only [M_addEel, lt_eq, rr_putB h]
end
section
def M_failsAtMarket (m : Nat) (I : ow_I) : Bool × ow_I :=
  if M_wordOf m I = 0 then lt (M_failsAtNumber m 0 (nI 5) (nI 60) I) (fun (r1 : Bool × ow_I) => if r1.1 then (true, r1.2) else lt (M_failsAtNumber m 1 (nI 1) (r1.2 (m + 4) 0) r1.2) (fun (r2 : Bool × ow_I) => if r2.1 then (true, r2.2) else lt (M_failsAtNumber m 2 (nI 1) (nI 9) r2.2) (fun (r3 : Bool × ow_I) => if r3.1 then (true, r3.2) else lt (M_failsAtNumber m 3 (nI 1) (nI 50) r3.2) (fun (r4 : Bool × ow_I) => if r4.1 then (true, r4.2) else lt (M_failsAtNumber m 4 (nI 0) (nI 50) r4.2) (fun (r5 : Bool × ow_I) => if r5.1 then (true, r5.2) else lt (M_beginMarket m (r5.2 (m + 4) 0) (r5.2 (m + 4) 1) (r5.2 (m + 4) 2) (r5.2 (m + 4) 3) (r5.2 (m + 4) 4) r5.2) (fun (I6 : ow_I) => lt (M_failsAtNext m I6) (fun (r7 : Bool × ow_I) => (r7.1, r7.2)))))))) else lt (M_fails m (nI 1) I) (fun (r8 : Bool × ow_I) => (r8.1, r8.2))
def M_failsAtBuyer (m : Nat) (I : ow_I) : Bool × ow_I :=
  if M_wordOf m I = nI 1 then if I (m + 1) 6 = nI 6 then lt (M_fails m (nI 3) I) (fun (r6 : Bool × ow_I) => (r6.1, r6.2)) else lt (M_failsAtNumber m 0 (nI 0) (nI 9999) I) (fun (r1 : Bool × ow_I) => if r1.1 then (true, r1.2) else lt (M_failsAtNumber m 1 (nI 0) (nI 4) r1.2) (fun (r2 : Bool × ow_I) => if r2.1 then (true, r2.2) else lt (M_failsAtNumber m 2 (nI 1) (nI 999) r2.2) (fun (r3 : Bool × ow_I) => if r3.1 then (true, r3.2) else lt (M_addBuyer m (r3.2 (m + 4) 0) (r3.2 (m + 4) 1) (r3.2 (m + 4) 2) r3.2) (fun (I4 : ow_I) => lt (M_failsAtNext m I4) (fun (r5 : Bool × ow_I) => (r5.1, r5.2)))))) else lt (M_fails m (nI 1) I) (fun (r7 : Bool × ow_I) => (r7.1, r7.2))
def M_failsAtBarrel_L23 (m : Nat) : Nat → ow_I → Bool × ow_I
  | 0, I => (default, I)
  | n + 1, I => if tn (I m 13) = 1 then lt (M_failsAtThis m (tn (I m 13)) (nI 10) (nI 150) I) (fun (r4 : Bool × ow_I) => if r4.1 then (true, r4.2) else if tn (I m 13) ≤ 9 then lt (ow_u r4.2 m 13 (r4.2 m 13 + (nI 1))) (fun (I5 : ow_I) => lt (M_readToken m I5) (fun (I6 : ow_I) => M_failsAtBarrel_L23 m n I6 )) else lt (M_fails m (nI 3) r4.2) (fun (r7 : Bool × ow_I) => (r7.1, r7.2))) else if I m 9 = nI 2 then lt (M_failsAtThis m (tn (I m 13)) (nI 10) (nI 150) I) (fun (r8 : Bool × ow_I) => if r8.1 then (true, r8.2) else if tn (I m 13) ≤ 9 then lt (ow_u r8.2 m 13 (r8.2 m 13 + (nI 1))) (fun (I9 : ow_I) => lt (M_readToken m I9) (fun (I10 : ow_I) => M_failsAtBarrel_L23 m n I10 )) else lt (M_fails m (nI 3) r8.2) (fun (r11 : Bool × ow_I) => (r11.1, r11.2))) else (false, I)
def M_failsAtBarrel (m : Nat) (I : ow_I) : Bool × ow_I :=
  lt (M_failsAtNumber m 0 (nI 1) (nI 999) I) (fun (r1 : Bool × ow_I) => if r1.1 then (true, r1.2) else lt (ow_u r1.2 m 13 (nI 1)) (fun (I2 : ow_I) => lt (M_readToken m I2) (fun (I3 : ow_I) => M_failsAtBarrel_L23 m 11 I3 )))
end
section
/-! the reference's texts: markets, buyers, barrels -/
theorem tf_abs {x : ow_I} {P : Prop} (h : ((true, x) : Bool × ow_I).1 = false) : P := Bool.noConfusion h
theorem tf2 {P : Prop} (h : true = false) : P := Bool.noConfusion h
theorem md_WT {m : Nat} {I : ow_I} (h : md_W m I) : md_T m I := h.1
theorem th_rng {m p : Nat} {lo hi : Int32} {I : ow_I} (h : (M_failsAtThis m p lo hi I).1 = false) : lo ≤ (M_failsAtThis m p lo hi I).2 (m + 4) p ∧ (M_failsAtThis m p lo hi I).2 (m + 4) p ≤ hi := by
  revert h
  simp only [M_failsAtThis, lt_eq]
  split
  · split
    · rename_i h2
      intro _
      simp only [ow_u_s]
      unfold M_in at h2
      split at h2
      · exact absurd h2 (by decide)
      · split at h2
        · exact absurd h2 (by decide)
        · exact ⟨i_nlt (by assumption), i_nlt (by assumption)⟩
    · intro h; exact absurd h (by simp [M_fails, lt_eq])
  · intro h; exact absurd h (by simp [M_fails, lt_eq])
theorem th_oth {m p q : Nat} {lo hi : Int32} {I : ow_I} (h : q ≠ p) : (M_failsAtThis m p lo hi I).2 (m + 4) q = I (m + 4) q := by
  simp only [M_failsAtThis, M_fails, lt_eq]
  (repeat' split) <;> simp (disch := omega) only [ow_u_k, ow_u_a]
theorem nu_rng {m p : Nat} {lo hi : Int32} {I : ow_I} (h : (M_failsAtNumber m p lo hi I).1 = false) : lo ≤ (M_failsAtNumber m p lo hi I).2 (m + 4) p ∧ (M_failsAtNumber m p lo hi I).2 (m + 4) p ≤ hi := by
  simp only [M_failsAtNumber, lt_eq] at h ⊢
  exact th_rng h
theorem nu_oth {m p q : Nat} {lo hi : Int32} {I : ow_I} (h : q ≠ p) : (M_failsAtNumber m p lo hi I).2 (m + 4) q = I (m + 4) q := by
  simp only [M_failsAtNumber, lt_eq, th_oth h, rr_readToken (show m + 4 ≠ m by omega)]
theorem rr_mkt {m a : Nat} {I : ow_I} (h : a ≠ m) (h1 : a ≠ m + 1) (h4 : a ≠ m + 4) : (M_failsAtMarket m I).2 a = I a := by
  simp only [M_failsAtMarket, lt_eq]
  (repeat' split) <;> simp only [rr_num h h4, rr_next h, rr_begin h1, rr_fails h]
theorem fr_mkt {m k : Nat} {I : ow_I} (h : k < 6 ∨ 11 < k) : (M_failsAtMarket m I).2 m k = I m k := by
  simp only [M_failsAtMarket, lt_eq]
  (repeat' split) <;> simp (disch := omega) only [fr_num, fr_next, rr_begin, fr_fails]
theorem W_mkt {m : Nat} {I : ow_I} (hw : md_W m I) : md_W m (M_failsAtMarket m I).2 := by
  simp only [M_failsAtMarket, lt_eq]
  (repeat' split) <;> (repeat (with_reducible first | exact hw | refine W_fails ?_ | refine W_num ?_ | refine W_next ?_ | refine mdT_row ?_ (rr_begin (by omega)) | refine md_WT ?_))
theorem rr_byr {m a : Nat} {I : ow_I} (h : a ≠ m) (h1 : a ≠ m + 1) (h4 : a ≠ m + 4) : (M_failsAtBuyer m I).2 a = I a := by
  simp only [M_failsAtBuyer, lt_eq]
  (repeat' split) <;> simp only [rr_num h h4, rr_next h, rr_addBuyer h1, rr_fails h]
theorem fr_byr {m k : Nat} {I : ow_I} (h : k < 6 ∨ 11 < k) : (M_failsAtBuyer m I).2 m k = I m k := by
  simp only [M_failsAtBuyer, lt_eq]
  (repeat' split) <;> simp (disch := omega) only [fr_num, fr_next, rr_addBuyer, fr_fails]
theorem W_byr {m : Nat} {I : ow_I} (hw : md_W m I) : md_W m (M_failsAtBuyer m I).2 := by
  simp only [M_failsAtBuyer, lt_eq]
  (repeat' split) <;> (repeat (with_reducible first | exact hw | refine W_fails ?_ | refine W_num ?_ | refine W_next ?_ | refine mdT_row ?_ (rr_addBuyer (by omega)) | refine md_WT ?_))
theorem rr_brL {m a : Nat} (h : a ≠ m) (h4 : a ≠ m + 4) : ∀ (n : Nat) (I : ow_I), (M_failsAtBarrel_L23 m n I).2 a = I a := by
  intro n
  induction n with
  | zero => intro I; rfl
  | succ n ih =>
    intro I
    simp only [M_failsAtBarrel_L23, lt_eq]
    (repeat' split) <;> simp only [ih, rr_readToken h, rr_u h, rr_this h h4, rr_fails h]
theorem fr_brL {m k : Nat} (h : k < 6 ∨ k = 12 ∨ 13 < k) : ∀ (n : Nat) (I : ow_I), (M_failsAtBarrel_L23 m n I).2 m k = I m k := by
  intro n
  induction n with
  | zero => intro I; rfl
  | succ n ih =>
    intro I
    simp only [M_failsAtBarrel_L23, lt_eq]
    (repeat' split) <;> simp (disch := omega) only [ih, fr_readToken, ow_u_k, fr_this, fr_fails]
theorem W_brL {m : Nat} : ∀ (n : Nat) (I : ow_I), md_W m I → md_W m (M_failsAtBarrel_L23 m n I).2 := by
  intro n
  induction n with
  | zero => intro I hw; exact hw
  | succ n ih =>
    intro I hw
    have g := @W_readToken m
    simp only [M_failsAtBarrel_L23, lt_eq]
    (repeat' split) <;> (repeat (with_reducible first | exact hw | refine ih _ ?_ | refine W_readToken ?_ | refine mdT_o ?_ _ (by decide) (by decide) | refine W_this ?_ | refine W_fails ?_ | refine md_WT ?_))
theorem N13_brL {m : Nat} : ∀ (n : Nat) (I : ow_I), 0 ≤ I m 13 → 1 ≤ tn (I m 13) → tn (I m 13) ≤ 10 → 0 ≤ (M_failsAtBarrel_L23 m n I).2 m 13 ∧ 1 ≤ tn ((M_failsAtBarrel_L23 m n I).2 m 13) ∧ tn ((M_failsAtBarrel_L23 m n I).2 m 13) ≤ 10 := by
  intro n
  induction n with
  | zero => intro I h0 h1 h2; exact ⟨h0, h1, h2⟩
  | succ n ih =>
    intro I h0 h1 h2
    have key : ∀ J : ow_I, J m 13 = I m 13 → tn (I m 13) ≤ 9 → 0 ≤ (M_failsAtBarrel_L23 m n (M_readToken m (ow_u J m 13 (J m 13 + nI 1)))).2 m 13 ∧ 1 ≤ tn ((M_failsAtBarrel_L23 m n (M_readToken m (ow_u J m 13 (J m 13 + nI 1)))).2 m 13) ∧ tn ((M_failsAtBarrel_L23 m n (M_readToken m (ow_u J m 13 (J m 13 + nI 1)))).2 m 13) ≤ 10 := by
      intro J hJ h9
      have e : (M_readToken m (ow_u J m 13 (J m 13 + nI 1))) m 13 = I m 13 + nI 1 := by
        rw [fr_readToken (by omega), ow_u_s, hJ]
      have t := tn_inc h0 (by omega)
      exact ih _ (by rw [e]; exact t.1) (by rw [e, t.2]; omega) (by rw [e, t.2]; omega)
    have f : ∀ p lo hi, (M_failsAtThis m p lo hi I).2 m 13 = I m 13 := fun p lo hi => fr_this (by omega)
    simp only [M_failsAtBarrel_L23, lt_eq]
    (repeat' split)
    · simp only [f]; exact ⟨h0, h1, h2⟩
    · exact key _ (f _ _ _) (by assumption)
    · simp (disch := omega) only [fr_fails, f]; exact ⟨h0, h1, h2⟩
    · simp only [f]; exact ⟨h0, h1, h2⟩
    · exact key _ (f _ _ _) (by assumption)
    · simp (disch := omega) only [fr_fails, f]; exact ⟨h0, h1, h2⟩
    · exact ⟨h0, h1, h2⟩
theorem rr_brl {m a : Nat} {I : ow_I} (h : a ≠ m) (h4 : a ≠ m + 4) : (M_failsAtBarrel m I).2 a = I a := by
  simp only [M_failsAtBarrel, lt_eq]
  (repeat' split) <;> simp only [rr_brL h h4, rr_num h h4, rr_readToken h, rr_u h]
theorem fr_brl {m k : Nat} {I : ow_I} (h : k < 6 ∨ k = 12 ∨ 13 < k) : (M_failsAtBarrel m I).2 m k = I m k := by
  simp only [M_failsAtBarrel, lt_eq]
  (repeat' split) <;> simp (disch := omega) only [fr_brL, fr_num, fr_readToken, ow_u_k]
theorem W_brl {m : Nat} {I : ow_I} (ht : md_T m I) : md_W m (M_failsAtBarrel m I).2 := by
  simp only [M_failsAtBarrel, lt_eq]
  (repeat' split) <;> (repeat (with_reducible first | exact ht | refine W_brL _ _ ?_ | refine W_num ?_ | refine W_readToken ?_ | refine mdT_o ?_ _ (by decide) (by decide) | refine md_WT ?_))
theorem N13_brl {m : Nat} {I : ow_I} (h : (M_failsAtBarrel m I).1 = false) : 0 ≤ (M_failsAtBarrel m I).2 m 13 ∧ 1 ≤ tn ((M_failsAtBarrel m I).2 m 13) ∧ tn ((M_failsAtBarrel m I).2 m 13) ≤ 10 := by
  revert h
  simp only [M_failsAtBarrel, lt_eq]
  (repeat' split)
  · intro h; exact tf_abs h
  · intro h
    have e : ∀ J : ow_I, (M_readToken m (ow_u J m 13 (nI 1))) m 13 = nI 1 := fun J => by rw [fr_readToken (by omega), ow_u_s]
    exact N13_brL _ _ (by rw [e]; decide) (by rw [e]; decide) (by rw [e]; decide)
theorem rr_tx {m a : Nat} {I : ow_I} (h : a ≠ m) : M_beginText m I a = I a := by
  simp only [M_beginText, lt_eq, rr_readToken h, rr_u h]
theorem fr_tx {m k : Nat} {I : ow_I} (h : k < 6 ∨ (11 < k ∧ k ≠ 15)) : M_beginText m I m k = I m k := by
  simp (disch := omega) only [M_beginText, lt_eq, fr_readToken, ow_u_k]
theorem fr_tx15 {m : Nat} {I : ow_I} : M_beginText m I m 15 = nI 0 := by
  simp (disch := omega) only [M_beginText, lt_eq, fr_readToken, ow_u_s]
theorem W_tx {m : Nat} {I : ow_I} (hl : 0 ≤ I m 5) (hlb : tn (I m 5) ≤ 500) : md_W m (M_beginText m I) := by
  simp only [M_beginText, lt_eq]
  refine W_readToken ?_
  unfold md_T
  simp (disch := omega) only [ow_u_k, ow_u_s]
  exact ⟨⟨hl, hlb⟩, nI_ge0 (by decide), by rw [tn_nI (by decide)]; omega⟩
def md_B (A : Nat → Int32) : Prop := ¬ A 0 = 0 ∧ (0 ≤ A 6 ∧ tn (A 6) ≤ 6) ∧ (0 ≤ A 7 ∧ tn (A 7) ≤ 20) ∧ A 8 = -1 ∧ A 10 = -1 ∧ A 12 = A 7 ∧ ∀ i, i < tn (A 7) → A (16 + i) = nI i ∧ A (66 + 15 * i + 12) = 0 ∧ 0 ≤ A (66 + 15 * i) ∧ 1 ≤ tn (A (66 + 15 * i)) ∧ tn (A (66 + 15 * i)) ≤ 9
theorem tn_ne {x : Int32} {n : Nat} (h0 : 0 ≤ x) (h : ¬ x = nI n) : tn x ≠ n := fun z => h (by rw [← z]; exact (nI_tn h0).symm)
theorem B_lt {A : Nat → Int32} (hB : md_B A) (h : ¬ A 7 = nI 20) : tn (A 7) < 20 := by
  have := tn_ne hB.2.2.1.1 h
  have := hB.2.2.1.2
  omega
theorem B_V {A : Nat → Int32} (hB : md_B A) (h6 : 1 ≤ tn (A 6)) : md_V A := by
  obtain ⟨h0, h1, h2, h3, h4, h5, hq⟩ := hB
  refine ⟨h0, ⟨h1.1, h6, h1.2⟩, h2, Or.inl h3, Or.inl h4, by rw [h5]; exact h2, ?_, ?_, ?_, ?_⟩
  · intro i hi
    rw [h5] at hi
    have q := hq i hi
    rw [q.1, tn_nI (by omega)]
    exact ⟨nI_ge0 (by omega), hi, q.2.1⟩
  · intro i j hi hj e
    rw [h5] at hi hj
    rw [(hq i hi).1, (hq j hj).1] at e
    exact (nI_eq (by omega) (by omega)).1 e
  · intro k hk hs
    exact ⟨k, by rw [h5]; exact hk, (hq k hk).1⟩
  · intro k hk
    exact (hq k hk).2.2
theorem bm_cells {m : Nat} {a0 a1 a2 a3 a4 : Int32} {I : ow_I} {k : Nat} : M_beginMarket m a0 a1 a2 a3 a4 I (m + 1) k = if k = 10 then -1 else if k = 8 then -1 else if k = 4 then a4 else if k = 3 then a3 else if k = 2 then a2 else if k = 1 then a1 else if k = 0 then a0 else if k < 370 then 0 else I (m + 1) k := by
  have key : ∀ (n : Nat) (I : ow_I) (i : Nat), 370 - i < n → i ≤ 370 → (∀ j, j < i → I (m + 1) j = 0) → M_beginMarket_L3 m a0 a1 a2 a3 a4 n I i (m + 1) k = if k = 10 then -1 else if k = 8 then -1 else if k = 4 then a4 else if k = 3 then a3 else if k = 2 then a2 else if k = 1 then a1 else if k = 0 then a0 else if k < 370 then 0 else I (m + 1) k := by
    intro n
    induction n with
    | zero => intro I i h; omega
    | succ n ih =>
      intro I i h h2 h3
      simp only [M_beginMarket_L3, lt_eq]
      split
      · have e : i = 370 := by omega
        subst e
        simp only [ow_u, true_and]
        have e : nI 0 = (0 : Int32) := by decide
        by_cases hk : k < 370
        · simp [h3 k hk, hk]
        · simp [hk]
      · rw [ih _ _ (by omega) (by omega)]
        · have e : ∀ x, ow_u I (m + 1) i x (m + 1) k = if k = i then x else I (m + 1) k := fun x => by by_cases hh : k = i <;> simp [ow_u, hh]
          by_cases hk : k < 370
          · simp [hk]
          · have : k ≠ i := by omega
            simp [hk, ow_u, this]
        · intro j hj
          by_cases hh : j = i
          · subst hh; rw [ow_u_s]; decide
          · rw [ow_u_k _ _ _ _ hh]; exact h3 j (by omega)
  exact key 371 I 0 (by omega) (by omega) (fun j hj => by omega)
theorem B_bm {m : Nat} {a0 a1 a2 a3 a4 : Int32} {I : ow_I} (h : ¬ a0 = 0) : md_B (M_beginMarket m a0 a1 a2 a3 a4 I (m + 1)) ∧ M_beginMarket m a0 a1 a2 a3 a4 I (m + 1) 6 = 0 ∧ M_beginMarket m a0 a1 a2 a3 a4 I (m + 1) 7 = 0 := by
  have e0 : M_beginMarket m a0 a1 a2 a3 a4 I (m + 1) 0 = a0 := by rw [bm_cells]; simp
  have e6 : M_beginMarket m a0 a1 a2 a3 a4 I (m + 1) 6 = 0 := by rw [bm_cells]; simp
  have e7 : M_beginMarket m a0 a1 a2 a3 a4 I (m + 1) 7 = 0 := by rw [bm_cells]; simp
  have e8 : M_beginMarket m a0 a1 a2 a3 a4 I (m + 1) 8 = -1 := by rw [bm_cells]; simp
  have e10 : M_beginMarket m a0 a1 a2 a3 a4 I (m + 1) 10 = -1 := by rw [bm_cells]; simp
  have e12 : M_beginMarket m a0 a1 a2 a3 a4 I (m + 1) 12 = 0 := by rw [bm_cells]; simp
  refine ⟨?_, e6, e7⟩
  unfold md_B
  rw [e0, e6, e7, e8, e10, e12]
  have t : tn 0 = 0 := rfl
  refine ⟨h, ⟨by decide, by rw [t]; omega⟩, ⟨by decide, by rw [t]; omega⟩, rfl, rfl, rfl, ?_⟩
  intro i hi
  rw [t] at hi
  omega
theorem B_mkt {m : Nat} {I : ow_I} (h : (M_failsAtMarket m I).1 = false) : md_B ((M_failsAtMarket m I).2 (m + 1)) ∧ (M_failsAtMarket m I).2 (m + 1) 6 = 0 ∧ (M_failsAtMarket m I).2 (m + 1) 7 = 0 := by
  revert h
  simp only [M_failsAtMarket, lt_eq]
  (repeat' split) <;> first | (intro h; with_reducible exact tf_abs h) | skip
  · intro h
    rename_i g1 g2 g3 g4 g5
    simp (disch := omega) only [rr_next (show m + 1 ≠ m by omega)]
    refine B_bm ?_
    simp only [nu_oth (show 0 ≠ 4 by decide), nu_oth (show 0 ≠ 3 by decide), nu_oth (show 0 ≠ 2 by decide), nu_oth (show 0 ≠ 1 by decide)]
    intro z
    have := (nu_rng (Bool.eq_false_iff.2 g1)).1
    rw [z] at this
    exact absurd this (by decide)
  · intro h; exact absurd h (by simp [M_fails, lt_eq])
theorem B_of {A A' : Nat → Int32} (hB : md_B A) (h6 : 0 ≤ A' 6 ∧ tn (A' 6) ≤ 6) (hs : ∀ k, (k = 0 ∨ k = 7 ∨ k = 8 ∨ k = 10 ∨ k = 12 ∨ (16 ≤ k ∧ k < 36) ∨ (66 ≤ k ∧ k < 366)) → A' k = A k) : md_B A' := by
  obtain ⟨h0, h1, h2, h3, h4, h5, hq⟩ := hB
  refine ⟨by rw [hs 0 (by omega)]; exact h0, h6, by rw [hs 7 (by omega)]; exact h2, by rw [hs 8 (by omega)]; exact h3, by rw [hs 10 (by omega)]; exact h4, by rw [hs 12 (by omega), hs 7 (by omega)]; exact h5, ?_⟩
  intro i hi
  rw [hs 7 (by omega)] at hi
  rw [hs (16 + i) (by omega), hs (66 + 15 * i + 12) (by omega), hs (66 + 15 * i) (by omega)]
  exact hq i hi
theorem ab_6 {m : Nat} {p s f : Int32} {I : ow_I} (h6 : 0 ≤ I (m + 1) 6) (h6b : tn (I (m + 1) 6) < 6) : 0 ≤ M_addBuyer m p s f I (m + 1) 6 ∧ tn (M_addBuyer m p s f I (m + 1) 6) = tn (I (m + 1) 6) + 1 := by
  simp (disch := omega) only [M_addBuyer, lt_eq, M_put, u_one, if_neg, if_pos]
  exact tn_inc h6 (by omega)
theorem ab_o {m k : Nat} {p s f : Int32} {I : ow_I} (h6b : tn (I (m + 1) 6) < 6) (hk : k < 6 ∨ (6 < k ∧ k < 15) ∨ (15 < k ∧ k < 36) ∨ 66 ≤ k) : M_addBuyer m p s f I (m + 1) k = I (m + 1) k := by
  simp (disch := omega) only [M_addBuyer, lt_eq, M_put, u_one, if_neg, if_pos]
theorem B_byr {m : Nat} {I : ow_I} (hB : md_B (I (m + 1))) : md_B ((M_failsAtBuyer m I).2 (m + 1)) ∧ ((M_failsAtBuyer m I).1 = false → tn ((M_failsAtBuyer m I).2 (m + 1) 6) = tn (I (m + 1) 6) + 1) := by
  have f1 : ∀ p lo hi (J : ow_I), (M_failsAtNumber m p lo hi J).2 (m + 1) = J (m + 1) := fun p lo hi J => rr_num (by omega) (by omega)
  have f2 : ∀ (J : ow_I), (M_failsAtNext m J).2 (m + 1) = J (m + 1) := fun J => rr_next (by omega)
  have f3 : ∀ c (J : ow_I), (M_fails m c J).2 (m + 1) = J (m + 1) := fun c J => rr_fails (by omega)
  simp only [M_failsAtBuyer, lt_eq]
  (repeat' split) <;> simp only [f1, f2, f3] <;> first | with_reducible exact ⟨hB, fun h => tf2 h⟩ | skip
  · exact ⟨hB, fun h => absurd h (by simp [M_fails, lt_eq])⟩
  · rename_i h6 _ _ _
    have h6 := tn_ne hB.2.1.1 h6
    have h6b : ∀ J : ow_I, J (m + 1) = I (m + 1) → 0 ≤ J (m + 1) 6 ∧ tn (J (m + 1) 6) < 6 := fun J hJ => by rw [hJ]; have := hB.2.1; exact ⟨this.1, by omega⟩
    have hJ : (M_failsAtNumber m 2 (nI 1) (nI 999) (M_failsAtNumber m 1 (nI 0) (nI 4) (M_failsAtNumber m 0 (nI 0) (nI 9999) I).2).2).2 (m + 1) = I (m + 1) := by rw [f1, f1, f1]
    have t := h6b _ hJ
    have a6 := fun p s f => @ab_6 m p s f _ t.1 t.2
    rw [← hJ] at hB ⊢
    refine ⟨B_of hB ⟨(a6 _ _ _).1, by rw [(a6 _ _ _).2]; omega⟩ (fun k hk => ab_o t.2 (by omega)), fun _ => (a6 _ _ _).2⟩
  · exact ⟨hB, fun h => absurd h (by simp [M_fails, lt_eq])⟩
/-- a barrel that is being filled: the last one has c eels -/
def md_E (A : Nat → Int32) (b c : Nat) : Prop := ¬ A 0 = 0 ∧ (0 ≤ A 6 ∧ tn (A 6) ≤ 6) ∧ (A 7 = nI (b + 1) ∧ b < 20) ∧ A 8 = -1 ∧ A 10 = -1 ∧ A 12 = A 7 ∧ (∀ i, i < b + 1 → A (16 + i) = nI i ∧ A (66 + 15 * i + 12) = 0) ∧ (∀ i, i < b → 0 ≤ A (66 + 15 * i) ∧ 1 ≤ tn (A (66 + 15 * i)) ∧ tn (A (66 + 15 * i)) ≤ 9) ∧ A (66 + 15 * b) = nI c
theorem E_B {A : Nat → Int32} {b c : Nat} (h : md_E A b c) (h1 : 1 ≤ c) (h9 : c ≤ 9) : md_B A := by
  obtain ⟨g0, g1, g2, g3, g4, g5, g6, g7, g8⟩ := h
  have e : tn (A 7) = b + 1 := by rw [g2.1, tn_nI (by omega)]
  refine ⟨g0, g1, ⟨by rw [g2.1]; exact nI_ge0 (by omega), by omega⟩, g3, g4, g5, ?_⟩
  intro i hi
  rw [e] at hi
  refine ⟨(g6 i hi).1, (g6 i hi).2, ?_⟩
  by_cases z : i = b
  · rw [z, g8, tn_nI (by omega)]; exact ⟨nI_ge0 (by omega), h1, h9⟩
  · exact g7 i (by omega)
theorem E_new {m : Nat} {r : Int32} {I : ow_I} (hB : md_B (I (m + 1))) (h7 : tn (I (m + 1) 7) < 20) : md_E ((M_newBarrel m r I).2 (m + 1)) (tn (I (m + 1) 7)) 0 := by
  obtain ⟨h0, h1, h2, h3, h4, h5, hq⟩ := hB
  have e12 : tn (I (m + 1) 12) = tn (I (m + 1) 7) := by rw [h5]
  have e7 : I (m + 1) 7 + nI 1 = nI (tn (I (m + 1) 7) + 1) := by rw [← nI_add, nI_tn h2.1]
  unfold md_E
  simp (disch := omega) only [M_newBarrel, M_enqueue, lt_eq, u_one, M_putBarrel, if_neg, if_pos]
  refine ⟨h0, h1, ⟨e7, h7⟩, h3, h4, by rw [h5], ?_, ?_, trivial⟩
  · intro i hi
    by_cases c : i = tn (I (m + 1) 7)
    · refine ⟨?_, ?_⟩
      · simp (disch := omega) only [if_neg, if_pos]; rw [c]
      · simp (disch := omega) only [if_pos]; decide
    · simp (disch := omega) only [if_neg]
      exact ⟨(hq i (by omega)).1, (hq i (by omega)).2.1⟩
  · intro i hi
    simp (disch := omega) only [if_neg]
    exact (hq i (by omega)).2.2
theorem E_add {m b c : Nat} {x : Int32} {I : ow_I} (h : md_E (I (m + 1)) b c) (hc : c < 9) : md_E (M_addEel m b x I (m + 1)) b (c + 1) := by
  obtain ⟨g0, g1, g2, g3, g4, g5, g6, g7, g8⟩ := h
  have e : tn (M_ofBarrel m b 0 I) = c := by show tn (I (m + 1) (66 + 15 * b)) = c; rw [g8, tn_nI (by omega)]
  unfold md_E
  simp (disch := omega) only [M_addEel, lt_eq, u_one, M_putBarrel, if_neg, if_pos, e]
  refine ⟨g0, g1, g2, g3, g4, g5, ?_, ?_, trivial⟩
  · intro i hi
    simp (disch := omega) only [if_neg]
    exact g6 i hi
  · intro i hi
    simp (disch := omega) only [if_neg]
    exact g7 i hi
end
section
def M_failsAtFirstBarrel_L40 (m : Nat) : Nat → ow_I → Nat → Nat → Bool × ow_I
  | 0, I, _, _ => (default, I)
  | n + 1, I, b, i => if tn (I m 13) ≤ i then lt (M_failsAtEnd m I) (fun (r3 : Bool × ow_I) => (r3.1, r3.2)) else lt (M_addEel m b (I (m + 4) i) I) (fun (I4 : ow_I) => M_failsAtFirstBarrel_L40 m n I4 b (i + 1))
def M_failsAtFirstBarrel (m : Nat) (I : ow_I) : Bool × ow_I :=
  if I (m + 1) 7 = nI 20 then lt (M_fails m (nI 3) I) (fun (r5 : Bool × ow_I) => (r5.1, r5.2)) else lt (M_failsAtBarrel m I) (fun (r1 : Bool × ow_I) => if r1.1 then (true, r1.2) else lt (M_newBarrel m (r1.2 (m + 4) 0) r1.2) (fun (r2 : Nat × ow_I) => M_failsAtFirstBarrel_L40 m 11 r2.2 r2.1 1))
end
section
/-! the reference's texts: first barrels -/
theorem rr_1L {m a : Nat} (h : a ≠ m) (h1 : a ≠ m + 1) : ∀ (n : Nat) (I : ow_I) (b i : Nat), (M_failsAtFirstBarrel_L40 m n I b i).2 a = I a := by
  intro n
  induction n with
  | zero => intro I b i; rfl
  | succ n ih =>
    intro I b i
    simp only [M_failsAtFirstBarrel_L40, lt_eq]
    (repeat' split) <;> simp only [ih, rr_end h, rr_addEel h1]
theorem fr_1L {m k : Nat} (h : k < 6 ∨ 11 < k) : ∀ (n : Nat) (I : ow_I) (b i : Nat), (M_failsAtFirstBarrel_L40 m n I b i).2 m k = I m k := by
  intro n
  induction n with
  | zero => intro I b i; rfl
  | succ n ih =>
    intro I b i
    simp only [M_failsAtFirstBarrel_L40, lt_eq]
    (repeat' split) <;> simp (disch := omega) only [ih, fr_end, rr_addEel]
theorem W_1L {m : Nat} : ∀ (n : Nat) (I : ow_I) (b i : Nat), md_W m I → md_W m (M_failsAtFirstBarrel_L40 m n I b i).2 := by
  intro n
  induction n with
  | zero => intro I b i hw; exact hw
  | succ n ih =>
    intro I b i hw
    simp only [M_failsAtFirstBarrel_L40, lt_eq]
    split
    · exact W_end hw
    · exact ih _ _ _ (mdW_row hw (rr_addEel (by omega)))
theorem B_1L {m : Nat} : ∀ (n : Nat) (I : ow_I) (b i : Nat), md_E (I (m + 1)) b (i - 1) → 1 ≤ i → i ≤ tn (I m 13) → 2 ≤ tn (I m 13) → tn (I m 13) ≤ 10 → 10 - i < n → md_B ((M_failsAtFirstBarrel_L40 m n I b i).2 (m + 1)) ∧ (M_failsAtFirstBarrel_L40 m n I b i).2 (m + 1) 7 = I (m + 1) 7 ∧ (M_failsAtFirstBarrel_L40 m n I b i).2 (m + 1) 6 = I (m + 1) 6 := by
  intro n
  induction n with
  | zero => intro I b i _ _ _ _ _ h; omega
  | succ n ih =>
    intro I b i hE h1 hi h2 h10 hn
    simp only [M_failsAtFirstBarrel_L40, lt_eq]
    split
    · rw [rr_end (by omega)]
      exact ⟨E_B hE (by omega) (by omega), rfl, rfl⟩
    · have e : ∀ x, (M_addEel m b x I) m = I m := fun x => rr_addEel (by omega)
      have hE' := fun x => @E_add m b (i - 1) x I hE (by omega)
      rw [show i - 1 + 1 = i + 1 - 1 by omega] at hE'
      have r := ih (M_addEel m b (I (m + 4) i) I) b (i + 1) (hE' _) (by omega) (by rw [e]; omega) (by rw [e]; omega) (by rw [e]; omega) (by omega)
      have e7 : ∀ k, k < 66 → M_addEel m b (I (m + 4) i) I (m + 1) k = I (m + 1) k := fun k hk => by
        simp (disch := omega) only [M_addEel, lt_eq, u_one, M_putBarrel, if_neg]
      rw [e7 7 (by omega), e7 6 (by omega)] at r
      exact r
theorem N13b_brL {m : Nat} : ∀ (n : Nat) (I : ow_I), 0 ≤ I m 13 → 1 ≤ tn (I m 13) → tn (I m 13) ≤ 10 → 10 - tn (I m 13) < n → (M_failsAtBarrel_L23 m n I).1 = false → 2 ≤ tn ((M_failsAtBarrel_L23 m n I).2 m 13) := by
  intro n
  induction n with
  | zero => intro I h0 h1 h2 h3; omega
  | succ n ih =>
    intro I h0 h1 h2 h3
    have key : ∀ J : ow_I, J m 13 = I m 13 → tn (I m 13) ≤ 9 → (M_failsAtBarrel_L23 m n (M_readToken m (ow_u J m 13 (J m 13 + nI 1)))).1 = false → 2 ≤ tn ((M_failsAtBarrel_L23 m n (M_readToken m (ow_u J m 13 (J m 13 + nI 1)))).2 m 13) := by
      intro J hJ h9
      have e : (M_readToken m (ow_u J m 13 (J m 13 + nI 1))) m 13 = I m 13 + nI 1 := by
        rw [fr_readToken (by omega), ow_u_s, hJ]
      have t := tn_inc h0 (by omega)
      exact ih _ (by rw [e]; exact t.1) (by rw [e, t.2]; omega) (by rw [e, t.2]; omega) (by rw [e, t.2]; omega)
    have f : ∀ p lo hi, (M_failsAtThis m p lo hi I).2 m 13 = I m 13 := fun p lo hi => fr_this (by omega)
    simp only [M_failsAtBarrel_L23, lt_eq]
    (repeat' split)
    · intro h; exact tf_abs h
    · exact key _ (f _ _ _) (by assumption)
    · intro h; exact absurd h (by simp [M_fails, lt_eq])
    · intro h; exact tf_abs h
    · exact key _ (f _ _ _) (by assumption)
    · intro h; exact absurd h (by simp [M_fails, lt_eq])
    · intro _; show 2 ≤ tn (I m 13); omega
theorem N13b_brl {m : Nat} {I : ow_I} (h : (M_failsAtBarrel m I).1 = false) : 2 ≤ tn ((M_failsAtBarrel m I).2 m 13) := by
  revert h
  simp only [M_failsAtBarrel, lt_eq]
  split
  · intro h; exact tf_abs h
  · have e : ∀ J : ow_I, (M_readToken m (ow_u J m 13 (nI 1))) m 13 = nI 1 := fun J => by rw [fr_readToken (by omega), ow_u_s]
    exact N13b_brL _ _ (by rw [e]; decide) (by rw [e]; decide) (by rw [e]; decide) (by rw [e, tn_nI (by decide)]; omega)
theorem rr_1st {m a : Nat} {I : ow_I} (h : a ≠ m) (h1 : a ≠ m + 1) (h4 : a ≠ m + 4) : (M_failsAtFirstBarrel m I).2 a = I a := by
  simp only [M_failsAtFirstBarrel, lt_eq]
  (repeat' split) <;> simp only [rr_1L h h1, rr_newBarrel h1, rr_brl h h4, rr_fails h]
theorem fr_1st {m k : Nat} {I : ow_I} (h : k < 6 ∨ k = 12 ∨ 13 < k) : (M_failsAtFirstBarrel m I).2 m k = I m k := by
  simp only [M_failsAtFirstBarrel, lt_eq]
  (repeat' split) <;> simp (disch := omega) only [fr_1L, rr_newBarrel, fr_brl, fr_fails]
theorem W_1st {m : Nat} {I : ow_I} (hw : md_W m I) : md_W m (M_failsAtFirstBarrel m I).2 := by
  simp only [M_failsAtFirstBarrel, lt_eq]
  (repeat' split) <;> (repeat (with_reducible first | exact hw | refine W_fails ?_ | refine W_1L _ _ _ _ ?_ | refine mdW_row ?_ (rr_newBarrel (by omega)) | refine W_brl ?_ | refine md_WT ?_))
theorem B_1st {m : Nat} {I : ow_I} (hB : md_B (I (m + 1))) (h : (M_failsAtFirstBarrel m I).1 = false) : md_B ((M_failsAtFirstBarrel m I).2 (m + 1)) ∧ tn ((M_failsAtFirstBarrel m I).2 (m + 1) 7) = tn (I (m + 1) 7) + 1 ∧ (M_failsAtFirstBarrel m I).2 (m + 1) 6 = I (m + 1) 6 := by
  revert h
  simp only [M_failsAtFirstBarrel, lt_eq]
  (repeat' split)
  · intro h; exact absurd h (by simp [M_fails, lt_eq])
  · intro h; exact tf_abs h
  · intro hz
    rename_i h7 hf
    have hf := Bool.eq_false_iff.2 hf
    have eJ : (M_failsAtBarrel m I).2 (m + 1) = I (m + 1) := rr_brl (by omega) (by omega)
    have h7 := B_lt hB h7
    have n1 := N13_brl hf
    have n2 := N13b_brl hf
    generalize (M_failsAtBarrel m I).2 = J at eJ n1 n2 ⊢
    rw [← eJ] at hB h7 ⊢
    have em : (M_newBarrel m (J (m + 4) 0) J).2 m = J m := rr_newBarrel (by omega)
    have r := B_1L 11 (M_newBarrel m (J (m + 4) 0) J).2 (tn (J (m + 1) 7)) 1 (E_new hB h7) (by omega) (by rw [em]; omega) (by rw [em]; omega) (by rw [em]; omega) (by omega)
    have e6 : (M_newBarrel m (J (m + 4) 0) J).2 (m + 1) 6 = J (m + 1) 6 := by
      simp (disch := omega) only [M_newBarrel, M_enqueue, lt_eq, u_one, M_putBarrel, if_neg]
    have e7 : (M_newBarrel m (J (m + 4) 0) J).2 (m + 1) 7 = J (m + 1) 7 + nI 1 := by
      simp (disch := omega) only [M_newBarrel, M_enqueue, lt_eq, u_one, M_putBarrel, if_neg, ↓reduceIte]
    refine ⟨r.1, ?_, ?_⟩
    · rw [rdNB1, r.2.1, e7, (tn_inc hB.2.2.1.1 (by omega)).2]
    · rw [rdNB1, r.2.2, e6]
theorem byr_6 {m : Nat} {I : ow_I} (hB : md_B (I (m + 1))) (h : (M_failsAtBuyer m I).1 = false) : tn ((M_failsAtBuyer m I).2 (m + 1) 6) = tn (I (m + 1) 6) + 1 := (B_byr hB).2 h
end
section
def M_failsAtSetup_L37 (m : Nat) : Nat → ow_I → Bool × ow_I
  | 0, I => (default, I)
  | n + 1, I => if M_wordOf m I = nI 2 then lt (M_failsAtFirstBarrel m I) (fun (r5 : Bool × ow_I) => if r5.1 then (true, r5.2) else M_failsAtSetup_L37 m n r5.2 ) else if I m 9 = 0 then (false, I) else lt (M_fails m (nI 1) I) (fun (r4 : Bool × ow_I) => if r4.1 then (true, r4.2) else (false, r4.2))
def M_failsAtSetup_L20 (m : Nat) : Nat → ow_I → Bool × ow_I
  | 0, I => (default, I)
  | n + 1, I => if M_wordOf m I = nI 1 then lt (M_failsAtBuyer m I) (fun (r6 : Bool × ow_I) => if r6.1 then (true, r6.2) else M_failsAtSetup_L20 m n r6.2 ) else M_failsAtSetup_L37 m 21 I 
def M_failsAtSetup (m : Nat) (I : ow_I) : Bool × ow_I :=
  lt (M_beginText m I) (fun (I1 : ow_I) => lt (M_failsAtMarket m I1) (fun (r2 : Bool × ow_I) => if r2.1 then (true, r2.2) else lt (M_failsAtBuyer m r2.2) (fun (r3 : Bool × ow_I) => if r3.1 then (true, r3.2) else M_failsAtSetup_L20 m 7 r3.2 )))
def M_failsAtBuyerNumber (m : Nat) (I : ow_I) : Bool × ow_I :=
  lt (M_failsAtNumber m 0 (nI 0) (I (m + 1) 6 - (nI 1)) I) (fun (r1 : Bool × ow_I) => (r1.1, r1.2))
def M_failsAtBarrelNumber (m : Nat) (I : ow_I) : Bool × ow_I :=
  lt (M_failsAtNumber m 0 (nI 0) (nI 19) I) (fun (r1 : Bool × ow_I) => (r1.1, r1.2))
end
section
/-! the reference's texts: setups as a whole -/
theorem rr_s37 {m a : Nat} (h : a ≠ m) (h1 : a ≠ m + 1) (h4 : a ≠ m + 4) : ∀ (n : Nat) (I : ow_I), (M_failsAtSetup_L37 m n I).2 a = I a := by
  intro n
  induction n with
  | zero => intro I; rfl
  | succ n ih =>
    intro I
    simp only [M_failsAtSetup_L37, lt_eq]
    (repeat' split) <;> simp only [ih, rr_1st h h1 h4, rr_fails h]
theorem rr_s20 {m a : Nat} (h : a ≠ m) (h1 : a ≠ m + 1) (h4 : a ≠ m + 4) : ∀ (n : Nat) (I : ow_I), (M_failsAtSetup_L20 m n I).2 a = I a := by
  intro n
  induction n with
  | zero => intro I; rfl
  | succ n ih =>
    intro I
    simp only [M_failsAtSetup_L20, lt_eq]
    (repeat' split) <;> simp only [ih, rr_byr h h1 h4, rr_s37 h h1 h4]
theorem rr_set {m a : Nat} {I : ow_I} (h : a ≠ m) (h1 : a ≠ m + 1) (h4 : a ≠ m + 4) : (M_failsAtSetup m I).2 a = I a := by
  simp only [M_failsAtSetup, lt_eq]
  (repeat' split) <;> simp only [rr_s20 h h1 h4, rr_byr h h1 h4, rr_mkt h h1 h4, rr_tx h]
theorem fr_s37 {m k : Nat} (h : k < 6 ∨ k = 12 ∨ 13 < k) : ∀ (n : Nat) (I : ow_I), (M_failsAtSetup_L37 m n I).2 m k = I m k := by
  intro n
  induction n with
  | zero => intro I; rfl
  | succ n ih =>
    intro I
    simp only [M_failsAtSetup_L37, lt_eq]
    (repeat' split) <;> simp (disch := omega) only [ih, fr_1st, fr_fails]
theorem fr_s20 {m k : Nat} (h : k < 6 ∨ k = 12 ∨ 13 < k) : ∀ (n : Nat) (I : ow_I), (M_failsAtSetup_L20 m n I).2 m k = I m k := by
  intro n
  induction n with
  | zero => intro I; rfl
  | succ n ih =>
    intro I
    simp only [M_failsAtSetup_L20, lt_eq]
    (repeat' split) <;> simp (disch := omega) only [ih, fr_byr, fr_s37]
theorem fr_set {m k : Nat} {I : ow_I} (h : k < 6 ∨ k = 12 ∨ (13 < k ∧ k ≠ 15)) : (M_failsAtSetup m I).2 m k = I m k := by
  simp only [M_failsAtSetup, lt_eq]
  (repeat' split) <;> simp (disch := omega) only [fr_s20, fr_byr, fr_mkt, fr_tx]
theorem ae_o {m b k c : Nat} {x : Int32} {I : ow_I} (h : I (m + 1) (66 + 15 * b) = nI c) (hc : c < 9) (hk : k < 66 + 15 * b ∨ 66 + 15 * b + 10 ≤ k) : M_addEel m b x I (m + 1) k = I (m + 1) k := by
  have e : tn (M_ofBarrel m b 0 I) = c := by show tn (I (m + 1) (66 + 15 * b)) = c; rw [h, tn_nI (by omega)]
  simp (disch := omega) only [M_addEel, lt_eq, u_one, M_putBarrel, if_neg, e]
theorem nb_o {m k : Nat} {r : Int32} {I : ow_I} (h7 : tn (I (m + 1) 7) < 20) (h12 : tn (I (m + 1) 12) < 20) (hk : k < 7 ∨ (7 < k ∧ k < 12) ∨ (12 < k ∧ k < 16) ∨ (36 ≤ k ∧ k < 66 + 15 * tn (I (m + 1) 7)) ∨ 66 + 15 * tn (I (m + 1) 7) + 15 ≤ k) : (M_newBarrel m r I).2 (m + 1) k = I (m + 1) k := by
  simp (disch := omega) only [M_newBarrel, M_enqueue, lt_eq, u_one, M_putBarrel, if_neg]
theorem fb_byr {m k : Nat} {I : ow_I} (hB : md_B (I (m + 1))) (hk : 370 ≤ k) : (M_failsAtBuyer m I).2 (m + 1) k = I (m + 1) k := by
  have f1 : ∀ p lo hi (J : ow_I), (M_failsAtNumber m p lo hi J).2 (m + 1) = J (m + 1) := fun p lo hi J => rr_num (by omega) (by omega)
  have f2 : ∀ (J : ow_I), (M_failsAtNext m J).2 (m + 1) = J (m + 1) := fun J => rr_next (by omega)
  have f3 : ∀ c (J : ow_I), (M_fails m c J).2 (m + 1) = J (m + 1) := fun c J => rr_fails (by omega)
  simp only [M_failsAtBuyer, lt_eq]
  (repeat' split) <;> simp only [f1, f2, f3]
  rename_i h6 _ _ _
  have h6 := tn_ne hB.2.1.1 h6
  have := hB.2.1.2
  rw [ab_o (by rw [f1, f1, f1]; omega) (by omega), f1, f1, f1]
theorem fb_1L {m k : Nat} (hk : 370 ≤ k) : ∀ (n : Nat) (I : ow_I) (b i : Nat), md_E (I (m + 1)) b (i - 1) → 1 ≤ i → tn (I m 13) ≤ 10 → (M_failsAtFirstBarrel_L40 m n I b i).2 (m + 1) k = I (m + 1) k := by
  intro n
  induction n with
  | zero => intro I b i _ _ _; rfl
  | succ n ih =>
    intro I b i hE h1 h10
    simp only [M_failsAtFirstBarrel_L40, lt_eq]
    split
    · show (M_failsAtEnd m I).2 (m + 1) k = _
      rw [rr_end (by omega)]
    · have e : ∀ x, (M_addEel m b x I) m = I m := fun x => rr_addEel (by omega)
      have hE' := fun x => @E_add m b (i - 1) x I hE (by omega)
      rw [show i - 1 + 1 = i + 1 - 1 by omega] at hE'
      rw [ih _ _ _ (hE' _) (by omega) (by rw [e]; exact h10), ae_o hE.2.2.2.2.2.2.2.2 (by omega) (by have := hE.2.2.1.2; omega)]
theorem fb_1st {m k : Nat} {I : ow_I} (hB : md_B (I (m + 1))) (hk : 370 ≤ k) : (M_failsAtFirstBarrel m I).2 (m + 1) k = I (m + 1) k := by
  simp only [M_failsAtFirstBarrel, lt_eq]
  (repeat' split)
  · show (M_fails m (nI 3) I).2 (m + 1) k = _
    rw [rr_fails (by omega)]
  · show (M_failsAtBarrel m I).2 (m + 1) k = _
    rw [rr_brl (by omega) (by omega)]
  · rename_i h7 hf
    have hf := Bool.eq_false_iff.2 hf
    have eJ : (M_failsAtBarrel m I).2 (m + 1) = I (m + 1) := rr_brl (by omega) (by omega)
    have h7 := B_lt hB h7
    have n1 := N13_brl hf
    generalize (M_failsAtBarrel m I).2 = J at eJ n1 ⊢
    rw [← eJ] at hB h7 ⊢
    have em : (M_newBarrel m (J (m + 4) 0) J).2 m = J m := rr_newBarrel (by omega)
    rw [fb_1L hk 11 _ _ 1 (by rw [rdNB1]; exact E_new hB h7) (by omega) (by rw [em]; omega)]
    exact nb_o h7 (by rw [hB.2.2.2.2.2.1]; exact h7) (by omega)
theorem fb_s37 {m k : Nat} (hk : 370 ≤ k) : ∀ (n : Nat) (I : ow_I), md_B (I (m + 1)) → (M_failsAtSetup_L37 m n I).2 (m + 1) k = I (m + 1) k := by
  intro n
  induction n with
  | zero => intro I _; rfl
  | succ n ih =>
    intro I hB
    simp only [M_failsAtSetup_L37, lt_eq]
    (repeat' split)
    · exact fb_1st hB hk
    · rename_i h
      rw [ih _ (B_1st hB (Bool.eq_false_iff.2 h)).1, fb_1st hB hk]
    · rfl
    · show (M_fails m (nI 1) I).2 (m + 1) k = _
      rw [rr_fails (by omega)]
    · show (M_fails m (nI 1) I).2 (m + 1) k = _
      rw [rr_fails (by omega)]
theorem fb_s20 {m k : Nat} (hk : 370 ≤ k) : ∀ (n : Nat) (I : ow_I), md_B (I (m + 1)) → (M_failsAtSetup_L20 m n I).2 (m + 1) k = I (m + 1) k := by
  intro n
  induction n with
  | zero => intro I _; rfl
  | succ n ih =>
    intro I hB
    simp only [M_failsAtSetup_L20, lt_eq]
    (repeat' split)
    · exact fb_byr hB hk
    · rw [ih _ (B_byr hB).1, fb_byr hB hk]
    · exact fb_s37 hk _ _ hB
theorem fb_mkt {m k : Nat} {I : ow_I} (hk : 370 ≤ k) : (M_failsAtMarket m I).2 (m + 1) k = I (m + 1) k := by
  have f1 : ∀ p lo hi (J : ow_I), (M_failsAtNumber m p lo hi J).2 (m + 1) = J (m + 1) := fun p lo hi J => rr_num (by omega) (by omega)
  have f2 : ∀ (J : ow_I), (M_failsAtNext m J).2 (m + 1) = J (m + 1) := fun J => rr_next (by omega)
  have f3 : ∀ c (J : ow_I), (M_fails m c J).2 (m + 1) = J (m + 1) := fun c J => rr_fails (by omega)
  simp only [M_failsAtMarket, lt_eq]
  (repeat' split) <;> simp (disch := omega) only [f1, f2, f3, bm_cells, if_neg]
theorem fb_set {m k : Nat} {I : ow_I} (hk : 370 ≤ k) : (M_failsAtSetup m I).2 (m + 1) k = I (m + 1) k := by
  have f : M_beginText m I (m + 1) = I (m + 1) := rr_tx (by omega)
  simp only [M_failsAtSetup, lt_eq]
  (repeat' split)
  · dsimp only
    rw [fb_mkt hk, f]
  · rename_i h _
    dsimp only
    rw [fb_byr (B_mkt (Bool.eq_false_iff.2 h)).1 hk, fb_mkt hk, f]
  · rename_i h _
    rw [fb_s20 hk _ _ (B_byr (B_mkt (Bool.eq_false_iff.2 h)).1).1, fb_byr (B_mkt (Bool.eq_false_iff.2 h)).1 hk, fb_mkt hk, f]
theorem B_s37 {m : Nat} : ∀ (n : Nat) (I : ow_I), md_B (I (m + 1)) → 20 - tn (I (m + 1) 7) < n → (M_failsAtSetup_L37 m n I).1 = false → md_B ((M_failsAtSetup_L37 m n I).2 (m + 1)) ∧ (M_failsAtSetup_L37 m n I).2 (m + 1) 6 = I (m + 1) 6 := by
  intro n
  induction n with
  | zero => intro I _ h; omega
  | succ n ih =>
    intro I hB hn
    simp only [M_failsAtSetup_L37, lt_eq]
    (repeat' split)
    · intro h; exact tf_abs h
    · rename_i h
      have b := B_1st hB (Bool.eq_false_iff.2 h)
      intro hz
      have := b.1.2.2.1.2
      have r := ih _ b.1 (by omega) hz
      rw [b.2.2] at r
      exact r
    · intro _; exact ⟨hB, rfl⟩
    · intro h; exact tf_abs h
    · rename_i h; exact absurd rfl (show ¬ true = true from h)
theorem B_s20 {m : Nat} : ∀ (n : Nat) (I : ow_I), md_B (I (m + 1)) → 1 ≤ tn (I (m + 1) 6) → 6 - tn (I (m + 1) 6) < n → (M_failsAtSetup_L20 m n I).1 = false → md_B ((M_failsAtSetup_L20 m n I).2 (m + 1)) ∧ 1 ≤ tn ((M_failsAtSetup_L20 m n I).2 (m + 1) 6) := by
  intro n
  induction n with
  | zero => intro I _ _ h; omega
  | succ n ih =>
    intro I hB h1 hn
    simp only [M_failsAtSetup_L20, lt_eq]
    (repeat' split)
    · intro h; exact tf_abs h
    · rename_i h
      have e := byr_6 hB (Bool.eq_false_iff.2 h)
      have b := (B_byr hB).1
      have := b.2.1.2
      intro hz
      exact ih _ b (by omega) (by omega) hz
    · intro hz
      have r := B_s37 21 I hB (by omega) hz
      exact ⟨r.1, by rw [r.2]; exact h1⟩
theorem V_set {m : Nat} {I : ow_I} (h : (M_failsAtSetup m I).1 = false) : md_V ((M_failsAtSetup m I).2 (m + 1)) := by
  revert h
  simp only [M_failsAtSetup, lt_eq]
  (repeat' split)
  · intro h; exact tf_abs h
  · intro h; exact tf_abs h
  · rename_i h hb
    intro hz
    have b := B_mkt (Bool.eq_false_iff.2 h)
    have e := byr_6 b.1 (Bool.eq_false_iff.2 hb)
    have r := B_s20 7 _ (B_byr b.1).1 (by omega) (by omega) hz
    exact B_V r.1 r.2
/-- what a copied block holds -/
theorem cb_cells {m f t : Nat} {I : ow_I} (h : f ≠ t) (k : Nat) : M_copyBlock m f t I (m + 1) k = if 370 * t ≤ k ∧ k < 370 * t + 370 then I (m + 1) (370 * f + (k - 370 * t)) else I (m + 1) k := by
  have key : ∀ (n : Nat) (J : ow_I) (i : Nat), 370 - i < n → i ≤ 370 → (∀ k, J (m + 1) k = if 370 * t ≤ k ∧ k < 370 * t + i then I (m + 1) (370 * f + (k - 370 * t)) else I (m + 1) k) → M_copyBlock_L2 m f t n J i (m + 1) k = if 370 * t ≤ k ∧ k < 370 * t + 370 then I (m + 1) (370 * f + (k - 370 * t)) else I (m + 1) k := by
    intro n
    induction n with
    | zero => intro J i h; omega
    | succ n ih =>
      intro J i h1 h2 h3
      simp only [M_copyBlock_L2, lt_eq]
      split
      · rw [h3, show i = 370 by omega]
      · refine ih _ _ (by omega) (by omega) (fun j => ?_)
        rw [u_one]
        split
        · rename_i e
          rw [h3, if_neg (by omega), if_pos (by omega), e, show 370 * t + i - 370 * t = i by omega]
        · rw [h3]
          by_cases c : 370 * t ≤ j ∧ j < 370 * t + i
          · rw [if_pos c, if_pos (by omega)]
          · rw [if_neg c, if_neg (by omega)]
  exact key 371 I 0 (by omega) (by omega) (fun k => by rw [if_neg (by omega)])
theorem rr_cbL {m a f t : Nat} (h : a ≠ m + 1) : ∀ (n : Nat) (I : ow_I) (i : Nat), M_copyBlock_L2 m f t n I i a = I a := by
  intro n
  induction n with
  | zero => intro I i; rfl
  | succ n ih =>
    intro I i
    simp only [M_copyBlock_L2, lt_eq]
    (repeat' split) <;> simp only [ih, rr_u h]
theorem rr_cb {m a f t : Nat} {I : ow_I} (h : a ≠ m + 1) : M_copyBlock m f t I a = I a := rr_cbL h _ _ _
theorem fr_thr {m k : Nat} {b : Bool} {w : Int32} {I : ow_I} (h : k ≠ 18) : (M_throwsIf m b w I).2 m k = I m k := by
  simp only [M_throwsIf, lt_eq]
  split
  · exact ow_u_k _ _ _ _ h _
  · rfl
theorem rr_thr {m a : Nat} {b : Bool} {w : Int32} {I : ow_I} (h : a ≠ m) : (M_throwsIf m b w I).2 a = I a := by
  simp only [M_throwsIf, lt_eq]
  split
  · exact rr_u h
  · rfl
theorem thr_b {m : Nat} {b : Bool} {w : Int32} {I : ow_I} : (M_throwsIf m b w I).1 = b := by
  simp only [M_throwsIf, lt_eq]
  split <;> rfl
theorem in_rng {v lo hi : Int32} {I : ow_I} (h : M_in v lo hi I = true) : lo ≤ v ∧ v ≤ hi := by
  unfold M_in at h
  split at h
  · exact absurd h (by decide)
  · split at h
    · exact absurd h (by decide)
    · exact ⟨i_nlt (by assumption), i_nlt (by assumption)⟩
end
