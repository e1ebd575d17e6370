/-! many minutes pass -/
section RLH
variable {a m B : Nat} {I J : ow_I}
theorem cnt_N (hv : md_V (J (m + 1))) : M_countState m (nI 2) J = nI (sdN (J (m + 1)) (tn (J (m + 1) 7))) := by
  have h7 := hv.2.2.1.2
  have L : ∀ (n e : Nat), e ≤ tn (J (m + 1) 7) → tn (J (m + 1) 7) - e < n → M_countState_L4 m (nI 2) n J (sdN (J (m + 1)) e) e = nI (sdN (J (m + 1)) (tn (J (m + 1) 7))) := by
    intro n
    induction n with
    | zero => intro e _ h; omega
    | succ n ih =>
      intro e he hn
      unfold M_countState_L4
      by_cases c : tn (J (m + 1) 7) ≤ e
      · rw [if_pos c, show e = tn (J (m + 1) 7) by omega]
      · rw [if_neg c]
        have c3 := ih (e + 1) (by omega) (by omega)
        rw [← c3]
        show (if J (m + 1) (66 + 15 * e + 12) = nI 2 then _ else _) = M_countState_L4 m (nI 2) n J (if J (m + 1) (66 + 15 * e + 12) = nI 2 then sdN (J (m + 1)) e + 1 else sdN (J (m + 1)) e) (e + 1)
        by_cases d : J (m + 1) (66 + 15 * e + 12) = nI 2
        · rw [if_pos d, if_pos d]
        · rw [if_neg d, if_neg d]
  exact L 21 0 (Nat.zero_le _) (by omega)
theorem sdN_le (f : Nat → Int32) : ∀ n, sdN f n ≤ n := by
  intro n
  induction n with
  | zero => exact Nat.le_refl 0
  | succ n ih =>
    unfold sdN
    split <;> omega
theorem ow_uu {α : Type} (f : Nat → Nat → α) (a k : Nat) (x y : α) : ow_u (ow_u f a k x) a k y = ow_u f a k y := by
  funext b j
  by_cases h : b = a
  · by_cases g : j = k
    · rw [h, g, ow_u_s, ow_u_s]
    · rw [ow_u_k _ _ _ _ g, ow_u_k _ _ _ _ g, ow_u_k _ _ _ _ g]
  · rw [ow_u_a _ _ _ _ h, ow_u_a _ _ _ _ h, ow_u_a _ _ _ _ h]
theorem idle_1 (h8 : J (m + 1) 8 = -1) (h12 : tn (J (m + 1) 12) = 0) : M_passOne m J = ow_u J (m + 1) 5 (J (m + 1) 5 + nI 1) := by
  have e8 : ow_u J (m + 1) 5 (J (m + 1) 5 + nI 1) (m + 1) 8 = -1 := by rw [u_one, if_neg (by decide)]; exact h8
  have e12 : tn (ow_u J (m + 1) 5 (J (m + 1) 5 + nI 1) (m + 1) 12) = 0 := by rw [u_one, if_neg (by decide)]; exact h12
  simp only [M_passOne, M_openFirst, lt_eq]
  generalize ow_u J (m + 1) 5 (J (m + 1) 5 + nI 1) = J1 at e8 e12 ⊢
  rw [if_pos (show J1 (m + 1) 8 < 0 by rw [e8]; decide), if_neg (show ¬ 0 ≤ J1 (m + 1) 8 by rw [e8]; decide), if_pos e12]
  split <;> split <;> rfl
theorem idle_n {n2 : Nat} {c : Int32} : ∀ (n i : Nat) (J : ow_I), i ≤ n2 → n2 - i < n → J (m + 1) 8 = -1 → tn (J (m + 1) 12) = 0 → (M_passAll_L8 m n2 n J c i).2 = ow_u J (m + 1) 5 (J (m + 1) 5 + nI (n2 - i)) ∧ (M_passAll_L8 m n2 n J c i).1 = M_countState m (nI 2) (M_passAll_L8 m n2 n J c i).2 - c := by
  intro n
  induction n with
  | zero => intro i J _ h; omega
  | succ n ih =>
    intro i J hi hn h8 h12
    unfold M_passAll_L8
    by_cases d : n2 ≤ i
    · rw [if_pos d]
      refine ⟨?_, rfl⟩
      show J = _
      funext b j
      rw [show n2 - i = 0 by omega, nI_0, Int32.add_zero]
      by_cases e : b = m + 1
      · rw [e, u_one]
        by_cases g : j = 5
        · rw [if_pos g, g]
        · rw [if_neg g]
      · rw [rr_u e]
    · rw [if_neg d, lt_eq, idle_1 h8 h12]
      have h1 := ih (i + 1) (ow_u J (m + 1) 5 (J (m + 1) 5 + nI 1)) (by omega) (by omega) (by rw [u_one, if_neg (by decide)]; exact h8) (by rw [u_one, if_neg (by decide)]; exact h12)
      refine ⟨h1.1.trans ?_, h1.2⟩
      rw [ow_uu, ow_u_s, Int32.add_assoc, nI_add]
      congr 3
      omega
theorem st_passL {n2 : Nat} {c0 : Int32} : ∀ (n i c B : Nat) (I J : ow_I) (N : Nat), i ≤ n2 → n2 - i < n → B + (n2 - i) < 2 ^ 30 → st1 a m B N I J false →
    ∃ d : Nat, st1 a m (B + (n2 - i)) (N + d) (K_letPass_L4 a n2 n I c i).2 (M_passAll_L8 m n2 n J c0 i).2 false ∧ (K_letPass_L4 a n2 n I c i).1 = nI (c + d) ∧ (M_passAll_L8 m n2 n J c0 i).1 = M_countState m (nI 2) (M_passAll_L8 m n2 n J c0 i).2 - c0 := by
  intro n
  induction n with
  | zero => intro i c B I J N _ h; omega
  | succ n ih =>
    intro i c B I J N hi hn hB h
    by_cases d : n2 ≤ i
    · refine ⟨0, ?_, ?_, ?_⟩
      · unfold K_letPass_L4 M_passAll_L8
        rw [if_pos d, if_pos d, show n2 - i = 0 by omega]
        exact h
      · unfold K_letPass_L4
        rw [if_pos d]
        rfl
      · unfold M_passAll_L8
        rw [if_pos d]
    · by_cases g : K_isIdle a I = true
      · have g8 : J (m + 1) 8 = -1 ∧ tn (J (m + 1) 12) = 0 := by
          unfold K_isIdle at g
          rw [h.1.2.2.2.1.1, h.1.2.2.1.2.2] at g
          by_cases c1 : J (m + 1) 8 = -1
          · rw [if_pos c1] at g
            by_cases c2 : J (m + 1) 12 = 0
            · exact ⟨c1, by rw [c2]; decide⟩
            · rw [if_neg c2] at g
              exact absurd g (by decide)
          · rw [if_neg c1] at g
            exact absurd g (by decide)
        have h1 := idle_n (m := m) (c := c0) (n + 1) i J hi hn g8.1 g8.2
        have eK : K_letPass_L4 a n2 (n + 1) I c i = (nI c, ow_u I (a + 1) 2 (I (a + 1) 2 + nI (n2 - i))) := by
          unfold K_letPass_L4
          rw [if_neg d, if_pos g, lt_eq]
        refine ⟨0, ?_, ?_, h1.2⟩
        · rw [h1.1, eK]
          refine ⟨rl_t1 h.1 h.2.1 (by rw [h.1.1.2.2]), V_row h.2.1 _ (Or.inl rfl), iv_tk _ h.2.2.1 h.2.1, ?_⟩
          rw [u_one, if_neg (by decide), sdN_c (f := J (m + 1)) _ (fun k hk => by rw [u_one, if_neg (by omega)])]
          exact h.2.2.2
        · rw [eK]
          rfl
      · have hp := st_pass h (by omega)
        unfold K_letPass_L4 M_passAll_L8
        rw [if_neg d, if_neg d, if_neg g, lt_eq, lt_eq]
        generalize hr : K_passOneMinute a I = r at hp
        obtain ⟨b, Y⟩ := r
        cases b with
        | true =>
          obtain ⟨d1, q1, q2, q3⟩ := ih (i + 1) (c + 1) (B + 1) Y (M_passOne m J) (N + 1) (by omega) (by omega) (by omega) ⟨hp.1, hp.2.1, hp.2.2.1, hp.2.2.2⟩
          rw [if_pos rfl]
          refine ⟨1 + d1, ?_, ?_, q3⟩
          · rw [show B + 1 + (n2 - (i + 1)) = B + (n2 - i) by omega, Nat.add_assoc N 1 d1] at q1
            exact q1
          · rw [← Nat.add_assoc]
            exact q2
        | false =>
          obtain ⟨d1, q1, q2, q3⟩ := ih (i + 1) c (B + 1) Y (M_passOne m J) N (by omega) (by omega) (by omega) ⟨hp.1, hp.2.1, hp.2.2.1, hp.2.2.2⟩
          rw [if_neg (show ¬ (false, Y).1 = true from (by decide : ¬ false = true))]
          refine ⟨d1, ?_, q2, q3⟩
          rw [show B + 1 + (n2 - (i + 1)) = B + (n2 - i) by omega] at q1
          exact q1
/-- what both are: related, and well-formed -/
def st (a m B : Nat) (I J : ow_I) : Prop := rl a I (J (m + 1)) ∧ md_V (J (m + 1)) ∧ iv B (J (m + 1))
theorem st_let {n2 : Nat} (h : st a m B I J) (hB : B + n2 < 2 ^ 30) : st a m (B + n2) (K_letPass a n2 I).2 (M_passAll m n2 J).2 ∧ (K_letPass a n2 I).1 = (M_passAll m n2 J).1 := by
  obtain ⟨d, q1, q2, q3⟩ := st_passL (a := a) (m := m) (n2 := n2) (c0 := M_countState m (nI 2) J) (n2 + 1) 0 0 B I J (sdN (J (m + 1)) (tn (J (m + 1) 7))) (Nat.zero_le _) (by omega) (by omega) ⟨h.1, h.2.1, h.2.2, rfl⟩
  refine ⟨⟨q1.1, q1.2.1, q1.2.2.1⟩, ?_⟩
  show (K_letPass_L4 a n2 (n2 + 1) I 0 0).1 = (M_passAll_L8 m n2 (n2 + 1) J (M_countState m (nI 2) J) 0).1
  have hl := sdN_le ((M_passAll_L8 m n2 (n2 + 1) J (M_countState m (nI 2) J) 0).2 (m + 1)) (tn ((M_passAll_L8 m n2 (n2 + 1) J (M_countState m (nI 2) J) 0).2 (m + 1) 7))
  rw [q3, cnt_N q1.2.1, q1.2.2.2, q2, cnt_N h.2.1]
  show nI (0 + d) = nI (sdN (J (m + 1)) (tn (J (m + 1) 7)) + d + 0) - nI (sdN (J (m + 1)) (tn (J (m + 1) 7)))
  rw [nI_sb (by omega)]
  congr 1
  omega
end RLH
