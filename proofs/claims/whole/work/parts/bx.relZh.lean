/-! A SCRIPT READ -/
section SCR
variable {p m c : Nat} {I J I' J' : ow_I}
/-- the command i, as both hold it -/
def cmr (p m i nb : Nat) (A C : ow_I) : Prop := ∃ v : Nat, v < 6 ∧ A (p + 6 + 2 * i) 0 = nI v ∧ C (m + 5) (13 * i) = nI (vw v) ∧ (v < 5 → nums v nb (A (p + 6 + 2 * i)) (fun k => C (m + 5) (13 * i + 2 + k))) ∧
  (v = 5 → ∃ n r : Nat, A (p + 6 + 2 * i) 4 = nI n ∧ C (m + 5) (13 * i + 1) = nI (n + 1) ∧ 1 ≤ n ∧ n ≤ 9 ∧ A (p + 6 + 2 * i) 1 = nI r ∧ C (m + 5) (13 * i + 2) = nI r ∧ 1 ≤ r ∧ r ≤ 999 ∧ ∀ j, j < n → ∃ l : Nat, A (p + 6 + 2 * i + 1) j = nI l ∧ C (m + 5) (13 * i + 3 + j) = nI l ∧ 10 ≤ l ∧ l ≤ 150)
theorem cmr_of {i nb : Nat} (h : cmr p m i nb I J) (e : I' (p + 6 + 2 * i) = I (p + 6 + 2 * i)) (e1 : I' (p + 6 + 2 * i + 1) = I (p + 6 + 2 * i + 1)) (e2 : ∀ k, 13 * i ≤ k → k < 13 * i + 13 → J' (m + 5) k = J (m + 5) k) : cmr p m i nb I' J' := by
  obtain ⟨v, h1, h2, h3, h4, h5⟩ := h
  refine ⟨v, h1, by rw [e, h2], by rw [e2 _ (by omega) (by omega), h3], fun z => ?_, fun z => ?_⟩
  · have q := h4 z
    obtain ⟨⟨k, k1, k2, k3⟩, q2⟩ := q
    refine ⟨⟨k, by rw [e, k1], ?_, k3⟩, fun y => ?_⟩
    · show J' (m + 5) (13 * i + 2 + 0) = nI k
      rw [e2 _ (by omega) (by omega)]
      exact k2
    · obtain ⟨w, w1, w2, w3⟩ := q2 y
      refine ⟨w, by rw [e, w1], ?_, w3⟩
      show J' (m + 5) (13 * i + 2 + 1) = nI w
      rw [e2 _ (by omega) (by omega)]
      exact w2
  · obtain ⟨n, r, g1, g2, g3, g4, g5, g6, g7, g8, g9⟩ := h5 z
    refine ⟨n, r, by rw [e, g1], by rw [e2 _ (by omega) (by omega), g2], g3, g4, by rw [e, g5], by rw [e2 _ (by omega) (by omega), g6], g7, g8, fun j hj => ?_⟩
    obtain ⟨l, l1, l2, l3⟩ := g9 j hj
    exact ⟨l, by rw [e1, l1], by rw [e2 _ (by omega) (by omega), l2], l3⟩
theorem fr_br0 (h1 : c ≠ p) (h2 : c ≠ p + 1) : ∀ (n : Nat) (I : ow_I) (i : Nat), (Q_readBarrel_L23 p c n I i).2 c 0 = I c 0 := by
  intro n
  induction n with
  | zero => intro I i; rfl
  | succ n ih =>
    intro I i
    have k : ow_u (ow_u (Q_takeNumber p (nI 10) (nI 150) I).2 (c + 1) i ((Q_takeNumber p (nI 10) (nI 150) I).2 p 4)) c 4 (nI (i + 1)) c 0 = I c 0 := by rw [u_one, if_neg (by decide), rr_u (by omega), rr_tn h1 h2]
    simp only [Q_readBarrel_L23, lt_eq]
    split
    · rfl
    · split
      · split
        · split <;> (show (Q_fail p _ I).2 c 0 = _) <;> rw [rr_qf h1]
        · split
          · rw [ih, k]
          · exact congrFun (rr_tn h1 h2) 0
      · split
        · split
          · split <;> (show (Q_fail p _ I).2 c 0 = _) <;> rw [rr_qf h1]
          · split
            · rw [ih, k]
            · exact congrFun (rr_tn h1 h2) 0
        · rfl
theorem fr_tf0 (h1 : c ≠ p) (h2 : c ≠ p + 1) {l h : Int32} : (Q_takeFirst p c l h I).2 c 0 = I c 0 := by
  simp only [Q_takeFirst, lt_eq]
  rw [u_one, if_neg (by decide), rr_tn h1 h2]
theorem fr_tc0 (h1 : c ≠ p) (h2 : c ≠ p + 1) {l h : Int32} : (Q_takeSecond p c l h I).2 c 0 = I c 0 := by
  simp only [Q_takeSecond, lt_eq]
  rw [u_one, if_neg (by decide), rr_tn h1 h2]
theorem fr_rn0 (h1 : c ≠ p) (h2 : c ≠ p + 1) {b : Int32} {j : Nat} : (Q_readNumbers p c b j I).2 c 0 = I c 0 := by
  simp only [Q_readNumbers, Q_readBarrel, lt_eq]
  (repeat' split) <;> (try dsimp only) <;> (first
    | with_reducible exact fr_tf0 h1 h2
    | (rw [fr_tc0 h1 h2, fr_tf0 h1 h2])
    | (rw [fr_br0 h1 h2, u_one, if_neg (by decide), rr_tn h1 h2])
    | exact congrFun (rr_tn h1 h2) 0)
theorem cL_end {N : Nat} : ∀ (k a i : Nat) (Y : ow_I), N ≤ 10 → 10 - i < k → tn (Y m 13) = N → ∃ X, M_failsAtCommand_L104 m k Y a i = M_failsAtEnd m X ∧ (∀ j, j ≠ 15 → X m j = Y m j) ∧ X (m + 3) = Y (m + 3) := by
  intro k
  induction k with
  | zero => intro a i Y h1 h2; omega
  | succ k ih =>
    intro a i Y h1 h2 h3
    unfold M_failsAtCommand_L104
    rw [h3]
    by_cases d : N ≤ i
    · rw [if_pos d]
      refine ⟨ow_u Y m 15 (Y m 15 + nI 1), rfl, fun j hj => by rw [u_one, if_neg hj], rr_u (by omega)⟩
    · rw [if_neg d, lt_eq]
      obtain ⟨X, e1, e2, e3⟩ := ih a (i + 1) (ow_u Y (m + 5) (a + 2 + i) (Y (m + 4) i)) h1 (by omega) (by rw [rr_u (by omega)]; exact h3)
      exact ⟨X, e1, fun j hj => by rw [e2 j hj, rr_u (by omega)], by rw [e3, rr_u (by omega)]⟩
theorem st_end {N w : Nat} {i : Nat} {C : ow_I} (hN : N ≤ 10) (h : tn (C m 13) = N) : ∃ X, md_st m (nI w) i C = M_failsAtEnd m X ∧ (∀ j, j ≠ 15 → X m j = C m j) ∧ X (m + 3) = C (m + 3) := by
  unfold md_st
  obtain ⟨X, e1, e2, e3⟩ := @cL_end m N 11 (13 * i) 0 (ow_u (ow_u C (m + 5) (13 * i) (nI w)) (m + 5) (13 * i + 1) (C m 13)) hN (by omega) (by rw [rr_u (by omega), rr_u (by omega)]; exact h)
  exact ⟨X, e1, fun j hj => by rw [e2 j hj, rr_u (by omega), rr_u (by omega)], by rw [e3, rr_u (by omega), rr_u (by omega)]⟩
/-- the end of a command: both store it and take the semicolon -/
theorem sto_eq {i nb v N : Nat} {A C : ow_I} (hi : i < 20) (ht : tk (p + 1) m A C) (hN : N ≤ 10) (h13 : C m 13 = nI N) (h15 : C m 15 = nI i) :
    pr p m (fun R S => tk (p + 1) m R S ∧ (∀ b, b ≠ p → b ≠ p + 1 → R b = A b) ∧ S m 15 = nI (i + 1) ∧ (∀ k, S (m + 5) k = if 13 * i + 2 ≤ k ∧ k < 13 * i + 2 + N then C (m + 4) (k - (13 * i + 2)) else if k = 13 * i + 1 then nI N else if k = 13 * i then nI v else C (m + 5) k) ∧ (∀ b, b ≠ m → b ≠ m + 5 → S b = C b)) (Q_takeSemicolon p A) (md_st m (nI v) i C) := by
  have t13 : tn (C m 13) = N := by rw [h13, tn_nI (by omega)]
  obtain ⟨X, e1, e2, e3⟩ := @st_end m N v i C hN t13
  have c5 := fun k => @st_5 m (nI v) i k C (by omega)
  have c15 := @st_15 m (nI v) i C (by omega)
  have cr : ∀ b, b ≠ m → b ≠ m + 5 → (md_st m (nI v) i C).2 b = C b := fun b z1 z2 => rr_st z1 z2
  have tX : tk (p + 1) m A X := tk_of ht (fun _ _ _ => rfl) rfl (fun j hj => e2 j (by omega)) e3
  rcases semi_st tX with ⟨R, S, a1, a2, a3⟩ | ⟨R, S, a1, a2, a3⟩
  · rw [e1, a2] at c5 c15 cr
    dsimp only at c5 c15 cr
    rw [e1, a1, a2]
    refine pr_t ⟨a3.1, a3.2.1, by rw [c15, h15, nI_add], fun k => ?_, cr⟩
    rw [c5 k, t13, h13]
  · rw [e1, a1, a2]
    exact pr_f a3
theorem cm1_eq {i nb v : Nat} {G : ow_I → Bool × ow_I} (ht : tk (p + 1) m I J) (hi : i < 20) (h15 : J m 15 = nI i) (hv : v < 6) (hw : M_wordOf m J = nI (vw v)) (hn : 1 ≤ nb ∧ nb ≤ 6) (h6 : J (m + 1) 6 = nI nb) :
    (∃ A C, lt (U_advance (p + 1) I) (fun (I3 : ow_I) => lt (ow_u I3 (p + 6 + 2 * i) 0 (nI v)) (fun (I4 : ow_I) => lt (Q_readNumbers p (p + 6 + 2 * i) (nI nb) v I4) (fun (r5 : Bool × ow_I) => if r5.1 then lt (Q_takeSemicolon p r5.2) (fun (r6 : Bool × ow_I) => if r6.1 then lt (ow_u r6.2 p 3 (nI (i + 1))) (fun (I7 : ow_I) => G I7) else (false, r6.2)) else (false, r5.2)))) = G A ∧ M_failsAtCommand m J = (false, C) ∧ tk (p + 1) m A C ∧ C m 15 = nI (i + 1) ∧ A p 3 = nI (i + 1) ∧ cmr p m i nb A C ∧ (∀ j, j < i → A (p + 6 + 2 * j) = I (p + 6 + 2 * j) ∧ A (p + 6 + 2 * j + 1) = I (p + 6 + 2 * j + 1)) ∧ (∀ k, k < 13 * i → C (m + 5) k = J (m + 5) k)) ∨
    (∃ A C, lt (U_advance (p + 1) I) (fun (I3 : ow_I) => lt (ow_u I3 (p + 6 + 2 * i) 0 (nI v)) (fun (I4 : ow_I) => lt (Q_readNumbers p (p + 6 + 2 * i) (nI nb) v I4) (fun (r5 : Bool × ow_I) => if r5.1 then lt (Q_takeSemicolon p r5.2) (fun (r6 : Bool × ow_I) => if r6.1 then lt (ow_u r6.2 p 3 (nI (i + 1))) (fun (I7 : ow_I) => G I7) else (false, r6.2)) else (false, r5.2)))) = (false, A) ∧ M_failsAtCommand m J = (true, C) ∧ pe p m A C) := by
  have t15 : tn (J m 15) = i := by rw [h15, tn_nI (by omega)]
  have n15 : ¬ J m 15 = nI 20 := fun z => by
    have := (nI_eq (by omega) (by omega)).mp (h15.symm.trans z)
    omega
  have vr : 2 ≤ vw v ∧ vw v ≤ 7 := by
    unfold vw
    split <;> omega
  have hin : M_in (nI (vw v)) (nI 2) (nI 7) J = true := by
    unfold M_in
    rw [if_neg (fun z => by have := (nI_ltI (by omega) (by omega)).mp z; omega), if_neg (fun z => by have := (nI_ltI (by omega) (by omega)).mp z; omega)]
  have eM := cmd_eq m J
  rw [hw, if_pos hin, if_neg n15, t15] at eM
  rw [lt_eq (U_advance (p + 1) I), lt_eq (ow_u (U_advance (p + 1) I) (p + 6 + 2 * i) 0 (nI v))]
  have tJ : tk (p + 1) m I (ow_u J m 13 (nI 2)) := tk_of ht (fun _ _ _ => rfl) rfl (fun j hj => by rw [u_one, if_neg (by omega)]) (rr_u (by omega))
  have t0 : tk (p + 1) m (ow_u (U_advance (p + 1) I) (p + 6 + 2 * i) 0 (nI v)) (M_readToken m (ow_u J m 13 (nI 2))) := tk_row (tok_next tJ) (rr_u (by omega)) (rr_u (by omega)) rfl rfl
  have i0 : ow_u (U_advance (p + 1) I) (p + 6 + 2 * i) 0 (nI v) (p + 6 + 2 * i) 0 = nI v := ow_u_s _ _ _ _
  have ir : ∀ b, b ≠ p + 1 → b ≠ p + 6 + 2 * i → ow_u (U_advance (p + 1) I) (p + 6 + 2 * i) 0 (nI v) b = I b := fun b z1 z2 => by rw [rr_u z2, rr_adv z1]
  generalize ow_u (U_advance (p + 1) I) (p + 6 + 2 * i) 0 (nI v) = I0 at t0 i0 ir ⊢
  have j13 : ow_u J m 13 (nI 2) m 13 = nI 2 := ow_u_s _ _ _ _
  have j15 : ow_u J m 13 (nI 2) m 15 = nI i := by rw [u_one, if_neg (by decide), h15]
  have jr : ∀ b, b ≠ m → ow_u J m 13 (nI 2) b = J b := fun b hb => rr_u hb
  generalize ow_u J m 13 (nI 2) = J0 at eM t0 j13 j15 jr tJ
  have rA : ∀ b, b ≠ p → b ≠ p + 1 → b ≠ p + 6 + 2 * i → b ≠ p + 6 + 2 * i + 1 → (Q_readNumbers p (p + 6 + 2 * i) (nI nb) v I0).2 b = I0 b := fun b z1 z2 z3 z4 => rr_rn z1 z2 z3 z4
  have r0 : (Q_readNumbers p (p + 6 + 2 * i) (nI nb) v I0).2 (p + 6 + 2 * i) 0 = I0 (p + 6 + 2 * i) 0 := fr_rn0 (by omega) (by omega)
  by_cases h5 : v = 5
  · have e2 : vw v = 2 := by rw [h5]; rfl
    rw [e2] at eM
    rw [if_pos rfl] at eM
    have eQ : Q_readNumbers p (p + 6 + 2 * i) (nI nb) v I0 = Q_readBarrel p (p + 6 + 2 * i) I0 := by
      unfold Q_readNumbers
      rw [h5, if_neg (show ¬ nI (gl_sm 5) = nI (1 + 0) by decide), if_neg (show ¬ nI (gl_sm 5) = nI (1 + 1) by decide), if_neg (show ¬ nI (gl_sm 5) = nI (1 + 2) by decide), if_neg (show ¬ nI (gl_sm 5) = nI (1 + 3) by decide), if_neg (show ¬ nI (gl_sm 5) = nI (1 + 4) by decide)]
      rfl
    have rC : ∀ b, b ≠ m → b ≠ m + 4 → (M_failsAtBarrel m J0).2 b = J0 b := fun b z1 z2 => rr_brl z1 z2
    have fC : ∀ k, (k < 6 ∨ k = 12 ∨ 13 < k) → (M_failsAtBarrel m J0).2 m k = J0 m k := fun k hk => fr_brl hk
    rw [eQ] at rA r0 ⊢
    rcases brl_eq (c := p + 6 + 2 * i) ⟨by omega, by omega, by omega, by omega⟩ t0 with ⟨A, C, e1, e2, g1, ⟨n, b1, b2, b3, b4, b5⟩, r, d1, d2, d3, d4⟩ | ⟨A, C, e1, e2, g⟩
    · rw [e1] at rA r0 ⊢
      rw [e2] at eM rC fC
      dsimp only at rA r0 rC fC eM
      rw [if_neg (show ¬ false = true by decide)] at eM
      rw [eM, lt_p true]
      dsimp only
      rw [if_pos (show true = true from rfl)]
      have tA : tk (p + 1) m A C := g1
      have c15 : C m 15 = nI i := by rw [fC 15 (by omega), j15]
      rcases sto_eq (nb := nb) (v := 2) (N := n + 1) hi tA (by omega) b2 c15 with ⟨R, S, a1, a2, a3, a4, a5, a6, a7⟩ | ⟨R, S, a1, a2, a3⟩
      · left
        rw [a1, a2, lt_p true]
        dsimp only
        rw [if_pos (show true = true from rfl), lt_eq]
        have rr : ∀ b, b ≠ p → b ≠ p + 1 → ow_u R p 3 (nI (i + 1)) b = A b := fun b z1 z2 => by rw [rr_u z1, a4 b z1 z2]
        refine ⟨_, S, rfl, rfl, tk_row a3 (rr_u (by omega)) (rr_u (by omega)) rfl rfl, a5, ow_u_s _ _ _ _, ⟨v, hv, ?_, ?_, fun z => by omega, fun _ => ⟨n, r, ?_, ?_, b3, b4, ?_, ?_, d3, d4, fun j hj => ?_⟩⟩, fun j hj => ⟨?_, ?_⟩, fun k hk => ?_⟩
        · rw [rr _ (by omega) (by omega), r0, i0]
        · rw [a6, if_neg (by omega), if_neg (by omega), if_pos rfl, h5]
          rfl
        · rw [rr _ (by omega) (by omega), b1]
        · rw [a6, if_neg (by omega), if_pos rfl]
        · rw [rr _ (by omega) (by omega), d1]
        · rw [a6, if_pos (by omega), Nat.sub_self, d2]
        · obtain ⟨l, l1, l2, l3⟩ := b5 j hj
          refine ⟨l, by rw [rr _ (by omega) (by omega), l1], ?_, l3⟩
          rw [a6, if_pos (by omega), show 13 * i + 3 + j - (13 * i + 2) = 1 + j by omega, l2]
        · rw [rr _ (by omega) (by omega), rA _ (by omega) (by omega) (by omega) (by omega), ir _ (by omega) (by omega)]
        · rw [rr _ (by omega) (by omega), rA _ (by omega) (by omega) (by omega) (by omega), ir _ (by omega) (by omega)]
        · rw [a6, if_neg (by omega), if_neg (by omega), if_neg (by omega), rC _ (by omega) (by omega), jr _ (by omega)]
      · right
        rw [a1, a2, lt_p false]
        dsimp only
        rw [if_neg (show ¬ false = true by decide)]
        exact ⟨R, S, rfl, rfl, a3⟩
    · right
      rw [e1]
      rw [e2] at eM
      dsimp only at eM
      rw [if_pos (show true = true from rfl)] at eM
      rw [eM, lt_p false]
      dsimp only
      rw [if_neg (show ¬ false = true by decide)]
      exact ⟨A, C, rfl, rfl, g⟩
  · have hv5 : v < 5 := by omega
    have n2 : ¬ nI (vw v) = nI 2 := fun z => by
      have := (nI_eq (by omega) (by omega)).mp z
      unfold vw at this
      rw [if_neg h5] at this
      omega
    rw [if_neg n2] at eM
    have rC : ∀ b, b ≠ m → b ≠ m + 4 → (M_failsAtRest m (nI (vw v)) J0).2 b = J0 b := fun b z1 z2 => rr_rest z1 z2
    have fC : ∀ k, (k < 6 ∨ 11 < k) → (M_failsAtRest m (nI (vw v)) J0).2 m k = J0 m k := fun k hk => fr_rest hk
    rcases rest_eq (c := p + 6 + 2 * i) (v := v) (nb := nb) ⟨by omega, by omega, by omega⟩ t0 hv5 hn (by rw [jr _ (by omega), h6]) with ⟨A, C, e1, e2, g1, g2⟩ | ⟨A, C, e1, e2, g⟩
    · rw [e1] at rA r0 ⊢
      rw [e2] at eM rC fC
      dsimp only at rA r0 rC fC eM
      rw [if_neg (show ¬ false = true by decide)] at eM
      rw [eM, lt_p true]
      dsimp only
      rw [if_pos (show true = true from rfl)]
      have c13 : M_readToken m C m 13 = nI 2 := by rw [fr_readToken (by omega), fC 13 (by omega), j13]
      have c15 : M_readToken m C m 15 = nI i := by rw [fr_readToken (by omega), fC 15 (by omega), j15]
      have c4 : M_readToken m C (m + 4) = C (m + 4) := rr_readToken (by omega)
      have c5 : M_readToken m C (m + 5) = J (m + 5) := by rw [rr_readToken (by omega), rC _ (by omega) (by omega), jr _ (by omega)]
      rcases sto_eq (nb := nb) (v := vw v) (N := 2) hi g1 (by omega) c13 c15 with ⟨R, S, a1, a2, a3, a4, a5, a6, a7⟩ | ⟨R, S, a1, a2, a3⟩
      · left
        rw [a1, a2, lt_p true]
        dsimp only
        rw [if_pos (show true = true from rfl), lt_eq]
        have rr : ∀ b, b ≠ p → b ≠ p + 1 → ow_u R p 3 (nI (i + 1)) b = A b := fun b z1 z2 => by rw [rr_u z1, a4 b z1 z2]
        have rc := rr (p + 6 + 2 * i) (by omega) (by omega)
        refine ⟨_, S, rfl, rfl, tk_row a3 (rr_u (by omega)) (rr_u (by omega)) rfl rfl, a5, ow_u_s _ _ _ _, ⟨v, hv, ?_, ?_, fun _ => ?_, fun z => absurd z h5⟩, fun j hj => ⟨?_, ?_⟩, fun k hk => ?_⟩
        · rw [rc, r0, i0]
        · rw [a6, if_neg (by omega), if_neg (by omega), if_pos rfl]
        · rw [rc]
          obtain ⟨⟨k, k1, k2, k3⟩, q2⟩ := g2
          refine ⟨⟨k, k1, ?_, k3⟩, fun y => ?_⟩
          · dsimp only
            rw [a6, if_pos (by omega), c4, show 13 * i + 2 + 0 - (13 * i + 2) = 0 by omega, k2]
          · obtain ⟨w, w1, w2, w3⟩ := q2 y
            refine ⟨w, w1, ?_, w3⟩
            dsimp only
            rw [a6, if_pos (by omega), c4, show 13 * i + 2 + 1 - (13 * i + 2) = 1 by omega, w2]
        · rw [rr _ (by omega) (by omega), rA _ (by omega) (by omega) (by omega) (by omega), ir _ (by omega) (by omega)]
        · rw [rr _ (by omega) (by omega), rA _ (by omega) (by omega) (by omega) (by omega), ir _ (by omega) (by omega)]
        · rw [a6, if_neg (by omega), if_neg (by omega), if_neg (by omega), c5]
      · right
        rw [a1, a2, lt_p false]
        dsimp only
        rw [if_neg (show ¬ false = true by decide)]
        exact ⟨R, S, rfl, rfl, a3⟩
    · right
      rw [e1]
      rw [e2] at eM
      dsimp only at eM
      rw [if_pos (show true = true from rfl)] at eM
      rw [eM, lt_p false]
      dsimp only
      rw [if_neg (show ¬ false = true by decide)]
      exact ⟨A, C, rfl, rfl, g⟩
end SCR
