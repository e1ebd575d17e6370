/-! A SCRIPT RUN -/
section RUN
variable {p m x B : Nat} {I I' J J' : ow_I}
theorem scr_loop {nb : Nat} (hn : 1 ≤ nb ∧ nb ≤ 6) : ∀ (k i : Nat) (I J : ow_I), i ≤ 20 → 20 - i < k → tk (p + 1) m I J → RW m J → J m 15 = nI i → I p 3 = nI i → J (m + 1) 6 = nI nb → (∀ j, j < i → cmr p m j nb I J) →
    (∃ A C n, Q_readScript_L11 p (nI nb) (k + 1) I i = (true, A) ∧ M_failsAtScript_L6 m (k + 481) J i = (false, C) ∧ n ≤ 20 ∧ C m 15 = nI n ∧ A p 3 = nI n ∧ ∀ j, j < n → cmr p m j nb A C) ∨ (∃ A C, Q_readScript_L11 p (nI nb) (k + 1) I i = (false, A) ∧ M_failsAtScript_L6 m (k + 481) J i = (true, C) ∧ pe p m A C) := by
  intro k
  induction k with
  | zero => intro i I J h1 h2; omega
  | succ k ih =>
    intro i I J h1 h2 ht hR h15 h3 h6 hc
    obtain ⟨q, hq, w1, w2, w3⟩ := wo_eq ht hR
    have eM : M_failsAtScript_L6 m (k + 1 + 481) J i = (if 500 < i then (false, J) else if J m 9 = 0 then (false, J) else lt (M_failsAtCommand m J) (fun (r2 : Bool × ow_I) => if r2.1 then (true, r2.2) else M_failsAtScript_L6 m (k + 481) r2.2 (i + 1))) := by
      rw [show k + 1 + 481 = (k + 481) + 1 by omega]
      rfl
    have eQ : Q_readScript_L11 p (nI nb) (k + 1 + 1) I i = (if 20 < i then (true, I) else if I (p + 1) 2 = 0 then (true, I) else if Q_verbHere p I < 6 then if i = 20 then lt (Q_fail p (nI 3) I) (fun (r8 : Bool × ow_I) => (r8.1, r8.2)) else lt (U_advance (p + 1) I) (fun (I3 : ow_I) => lt (ow_u I3 (p + 6 + 2 * i) 0 (nI ((Q_verbHere p I)))) (fun (I4 : ow_I) => lt (Q_readNumbers p (p + 6 + 2 * i) (nI nb) (Q_verbHere p I) I4) (fun (r5 : Bool × ow_I) => if r5.1 then lt (Q_takeSemicolon p r5.2) (fun (r6 : Bool × ow_I) => if r6.1 then lt (ow_u r6.2 p 3 (nI (i + 1))) (fun (I7 : ow_I) => Q_readScript_L11 p (nI nb) (k + 1) I7 (i + 1)) else (false, r6.2)) else (false, r5.2)))) else lt (Q_fail p (nI 1) I) (fun (r9 : Bool × ow_I) => (r9.1, r9.2))) := rfl
    rw [eM, eQ, if_neg (show ¬ 20 < i by omega), if_neg (show ¬ 500 < i by omega)]
    have kk := (tk_k ht).1
    by_cases z : J m 9 = 0
    · rw [if_pos (show I (p + 1) 2 = 0 from kk.trans z), if_pos z]
      exact Or.inl ⟨I, J, i, rfl, rfl, h1, h15, h3, hc⟩
    · rw [if_neg (show ¬ I (p + 1) 2 = 0 from fun y => z (kk.symm.trans y)), if_neg z]
      rcases vh_eq w2 w3 with ⟨v1, v2⟩ | ⟨v1, v2⟩
      · rw [if_pos v1]
        by_cases d : i = 20
        · right
          rw [if_pos d]
          obtain ⟨f1, f2, f3⟩ := fail_er (c := nI 3) ht
          have vr : 2 ≤ q ∧ q ≤ 7 := by
            rw [v2]
            unfold vw
            split <;> omega
          have hin : M_in (nI q) (nI 2) (nI 7) J = true := by
            unfold M_in
            rw [if_neg (fun z => by have := (nI_ltI (by omega) (by omega)).mp z; omega), if_neg (fun z => by have := (nI_ltI (by omega) (by omega)).mp z; omega)]
          rw [cmd_eq, w1, if_pos hin, if_pos (show J m 15 = nI 20 by rw [h15, d]), prod_eq f1, prod_eq f2, lt_p false, lt_p true]
          dsimp only
          rw [if_pos (show true = true from rfl)]
          exact ⟨_, _, rfl, rfl, f3⟩
        · rw [if_neg d]
          have rM : ∀ b, b ≠ m → b ≠ m + 4 → b ≠ m + 5 → (M_failsAtCommand m J).2 b = J b := fun b z1 z2 z3 => rr_cmd z1 z2 z3
          rcases cm1_eq (G := fun X => Q_readScript_L11 p (nI nb) (k + 1) X (i + 1)) ht (by omega) h15 v1 (by rw [w1, v2]) hn h6 with ⟨A, C, e1, e2, g1, g2, g3, g4, g5, g6⟩ | ⟨A, C, e1, e2, g⟩
          · rw [e2] at rM
            dsimp only at rM
            rw [e1, e2, lt_p false]
            dsimp only
            rw [if_neg (show ¬ false = true by decide)]
            refine ih (i + 1) A C (by omega) (by omega) g1 (RW_of hR (rM _ (by omega) (by omega) (by omega))) g2 g3 (by rw [rM _ (by omega) (by omega) (by omega), h6]) (fun j hj => ?_)
            by_cases f : j = i
            · rw [f]
              exact g4
            · exact cmr_of (hc j (by omega)) (g5 j (by omega)).1 (g5 j (by omega)).2 (fun k hk1 hk2 => g6 k (by omega))
          · right
            rw [e1, e2, lt_p true]
            dsimp only
            rw [if_pos (show true = true from rfl)]
            exact ⟨A, C, rfl, rfl, g⟩
      · right
        rw [if_neg v1]
        obtain ⟨f1, f2, f3⟩ := fail_er (c := nI 1) ht
        have hin : ¬ M_in (nI q) (nI 2) (nI 7) J = true := fun y => by
          unfold M_in at y
          by_cases a : nI q < nI 2
          · rw [if_pos a] at y
            exact absurd y (by decide)
          · rw [if_neg a] at y
            by_cases b : nI 7 < nI q
            · rw [if_pos b] at y
              exact absurd y (by decide)
            · have a2 : ¬ q < 2 := fun z => a ((nI_ltI (by omega) (by omega)).mpr z)
              have b2 : ¬ 7 < q := fun z => b ((nI_ltI (by omega) (by omega)).mpr z)
              exact v2 ⟨by omega, by omega⟩
        rw [cmd_eq, w1, if_neg hin, prod_eq f1, prod_eq f2, lt_p false, lt_p true]
        dsimp only
        rw [if_pos (show true = true from rfl)]
        exact ⟨_, _, rfl, rfl, f3⟩
theorem script_eq {n0 nb : Nat} (hx : tx (p + 1) m I J n0) (hR : RW m J) (hn : 1 ≤ nb ∧ nb ≤ 6) (h6 : J (m + 1) 6 = nI nb) :
    (∃ A C n, Q_readScript p (nI nb) I = (true, A) ∧ M_failsAtScript m J = (false, C) ∧ n ≤ 20 ∧ C m 15 = nI n ∧ A p 3 = nI n ∧ ∀ j, j < n → cmr p m j nb A C) ∨ (∃ A C, Q_readScript p (nI nb) I = (false, A) ∧ M_failsAtScript m J = (true, C) ∧ pe p m A C) := by
  have t0 := beg_eq hx
  unfold Q_readScript M_failsAtScript
  simp only [lt_eq]
  have t1 : tk (p + 1) m (ow_u (Q_begin p I) p 3 (nI 0)) (M_beginText m J) := tk_row t0 (rr_u (by omega)) (rr_u (by omega)) rfl rfl
  exact scr_loop hn 21 0 _ _ (by decide) (by decide) t1 (RW_of hR (rr_tx (by omega))) fr_tx15 (ow_u_s _ _ _ _) (by rw [rr_tx (by omega), h6]) (fun j hj => by omega)
/-! what a good script's reading leaves -/
theorem okp_tf {c : Nat} {l h : Int32} (hc : c ≠ p) : okp p I (Q_takeFirst p c l h I) := fun z => by
  have := okp_tn (p := p) (I := I) (l := l) (h := h)
  simp only [Q_takeFirst, lt_eq] at z ⊢
  rw [rr_u (Ne.symm hc)]
  exact this z
theorem okp_tc {c : Nat} {l h : Int32} (hc : c ≠ p) : okp p I (Q_takeSecond p c l h I) := fun z => by
  have := okp_tn (p := p) (I := I) (l := l) (h := h)
  simp only [Q_takeSecond, lt_eq] at z ⊢
  rw [rr_u (Ne.symm hc)]
  exact this z
theorem okp_rn {c j : Nat} {b : Int32} (hc : c ≠ p) (hc1 : c + 1 ≠ p) : okp p I (Q_readNumbers p c b j I) := by
  have two : ∀ {l h l2 h2 : Int32}, okp p I (lt (Q_takeFirst p c l h I) (fun (r3 : Bool × ow_I) => if r3.1 then lt (Q_takeSecond p c l2 h2 r3.2) (fun (r4 : Bool × ow_I) => if r4.1 then (true, r4.2) else (false, r4.2)) else (false, r3.2))) := fun {l h l2 h2} =>
    okp_lb (okp_tf hc) (fun r => okp_lb (okp_tc hc) (fun r => okp_t ⟨rfl, rfl⟩))
  unfold Q_readNumbers
  split
  · exact okp_e (okp_tf hc)
  · split
    · exact okp_e (okp_tf hc)
    · split
      · exact two
      · split
        · exact two
        · split
          · exact okp_e (okp_tf hc)
          · exact okp_e (okp_br hc hc1)
theorem okp_scL {b : Int32} : ∀ (n : Nat) (I : ow_I) (i : Nat), okp p I (Q_readScript_L11 p b n I i) := by
  intro n
  induction n with
  | zero => intro I i; exact okp_f
  | succ n ih =>
    intro I i
    unfold Q_readScript_L11
    split
    · exact okp_t ⟨rfl, rfl⟩
    · split
      · exact okp_t ⟨rfl, rfl⟩
      · split
        · split
          · exact okp_e okp_qf
          · refine okp_ls (rr_adv (by omega)) (okp_lu (by omega) (fun X => okp_lb (okp_rn (by omega) (by omega)) (fun r => okp_lb okp_ts (fun r => ?_))))
            refine okp_s (I' := ow_u r.2 p 3 (nI (i + 1))) ⟨by rw [u_one, if_neg (by decide)], by rw [u_one, if_neg (by decide)]⟩ (ih _ _)
        · exact okp_e okp_qf
theorem okp_sc {b : Int32} : okp p (Q_begin p I) (Q_readScript p b I) := okp_s (I' := ow_u (Q_begin p I) p 3 (nI 0)) ⟨by rw [u_one, if_neg (by decide)], by rw [u_one, if_neg (by decide)]⟩ (okp_scL _ _ _)
theorem okm_cL : ∀ (n : Nat) (J : ow_I) (a i : Nat), okm m J (M_failsAtCommand_L104 m n J a i) := by
  intro n
  induction n with
  | zero => intro J a i; exact okm_f ⟨rfl, rfl⟩
  | succ n ih =>
    intro J a i
    unfold M_failsAtCommand_L104
    split
    · exact okm_s (J' := ow_u J m 15 (J m 15 + nI 1)) ⟨by rw [u_one, if_neg (by decide)], by rw [u_one, if_neg (by decide)]⟩ okm_end
    · exact okm_s (okm_row (rr_u (by omega))) (ih _ _ _)
theorem okm_st {w : Int32} {i : Nat} : okm m J (md_st m w i J) := okm_s (J' := ow_u (ow_u J (m + 5) (13 * i) w) (m + 5) (13 * i + 1) (J m 13)) (okm_row (by rw [rr_u (by omega), rr_u (by omega)])) (okm_cL _ _ _ _)
theorem okm_rest {c : Int32} : okm m J (M_failsAtRest m c J) := by
  have two : ∀ {l h l2 h2 : Int32}, okm m J (lt (M_failsAtNumber m 0 l h J) (fun (r3 : Bool × ow_I) => if r3.1 then (true, r3.2) else lt (M_failsAtNumber m 1 l2 h2 r3.2) (fun (r4 : Bool × ow_I) => if r4.1 then (true, r4.2) else (false, r4.2)))) := fun {l h l2 h2} =>
    okm_lb okm_num (fun r => okm_lb okm_num (fun r => okm_f ⟨rfl, rfl⟩))
  unfold M_failsAtRest M_failsAtBuyerNumber M_failsAtBarrelNumber
  split
  · exact okm_e okm_num
  · split
    · exact okm_e okm_num
    · split
      · exact two
      · split
        · exact two
        · exact okm_e okm_num
theorem okm_cmd : okm m J (M_failsAtCommand m J) := by
  rw [cmd_eq]
  split
  · split
    · exact okm_fl
    · split
      · exact okm_s m13_67 (okm_b okm_br okm_st)
      · exact okm_s m13_67 (okm_b okm_rest (okm_s rt_67 okm_st))
  · exact okm_fl
theorem okm_scL : ∀ (n : Nat) (J : ow_I) (i : Nat), okm m J (M_failsAtScript_L6 m n J i) := by
  intro n
  induction n with
  | zero => intro J i; exact okm_f ⟨rfl, rfl⟩
  | succ n ih =>
    intro J i
    unfold M_failsAtScript_L6
    split
    · exact okm_f ⟨rfl, rfl⟩
    · split
      · exact okm_f ⟨rfl, rfl⟩
      · exact okm_lb okm_cmd (fun r => ih _ _)
theorem okm_sc : okm m (M_beginText m J) (M_failsAtScript m J) := okm_scL _ _ _
/-! the run -/
theorem run_loop {n nb : Nat} : ∀ (k i B : Nat) (I J : ow_I), RR x m B I J → J m 15 = nI n → I (x + 515) 3 = nI n → n ≤ 20 → (∀ j, j < n → cmr (x + 515) m j nb I J) → tn (J (m + 1) 6) = nb → i ≤ n → n - i < k → B + 200 * (n - i) < 2 ^ 29 →
    RR x m (B + 200 * (n - i)) (A_runScript_L53 x k I i).2.2 (M_runScript_L33 m k J i).2 ∧ (A_runScript_L53 x k I i).1 = 0 ∧ (A_runScript_L53 x k I i).2.1 = (M_runScript_L33 m k J i).1 ∧ (M_runScript_L33 m k J i).2 m 18 = J m 18 := by
  intro k
  induction k with
  | zero => intro i B I J h h15 h3 hn hc h6 hi hk; omega
  | succ k ih =>
    intro i B I J h h15 h3 hn hc h6 hi hk hB
    have up : ∀ {B B' : Nat} {I J : ow_I}, B ≤ B' → RR x m B I J → RR x m B' I J := fun hh g => RR_act g hh (st_of g.2.1 hh (fun _ _ _ => rfl) (fun _ _ => rfl)) g.1.1.1 (fun _ _ _ => rfl) (fun _ _ => rfl) (fun _ _ => rfl)
    unfold A_runScript_L53 M_runScript_L33
    rw [h15, h3, tn_nI (by omega)]
    by_cases d : n ≤ i
    · rw [if_pos d, if_pos d]
      exact ⟨up (by omega) h, rfl, by rw [show i = n by omega], rfl⟩
    · rw [if_neg d, if_neg d]
      have hV := h.1.1.1
      obtain ⟨e1, e2, e3⟩ := exec_eq (a := x + 1) (p := x + 515) h.2.1 (hc i (by omega)) h6 (by omega) (by omega) (by omega)
      have rA : ∀ b, (b < x + 1 ∨ x + 52 ≤ b) → (K_execute (x + 1) (x + 515 + 6 + 2 * i) (tn (I (x + 515 + 6 + 2 * i) 0)) I).2 b = I b := fun b hb => rr_exec (by omega) hV
      have kA := kV_exec (c := x + 515 + 6 + 2 * i) (j := tn (I (x + 515 + 6 + 2 * i) 0)) hV
      generalize K_execute (x + 1) (x + 515 + 6 + 2 * i) (tn (I (x + 515 + 6 + 2 * i) 0)) I = R at e1 e2 rA kA ⊢
      generalize M_execute m (13 * i) J = S at e1 e2 e3 ⊢
      have hr := RR_act h (show B ≤ B + 200 by omega) e1 kA (fun b hb _ => rA b hb) e3.1 (fun j hj => e3.2 j (Or.inl hj))
      have m0 : S.2 m = J m := e3.1 m (by omega)
      rw [lt_eq, lt_eq, e2]
      by_cases g : S.1 = true
      · rw [if_pos g, if_pos g]
        obtain ⟨q1, q2, q3, q4⟩ := ih (i + 1) (B + 200) R.2 S.2 hr (by rw [m0, h15]) (by rw [rA _ (by omega), h3]) hn (fun j hj => cmr_of (hc j hj) (rA _ (by omega)) (rA _ (by omega)) (fun q _ _ => by rw [e3.1 _ (by omega)])) (by rw [e3.2 6 (Or.inr (Or.inl rfl)), h6]) (by omega) (by omega) (by omega)
        exact ⟨by rw [show B + 200 * (n - i) = B + 200 + 200 * (n - (i + 1)) by omega]; exact q1, q2, q3, by rw [q4, m0]⟩
      · rw [if_neg g, if_neg g]
        exact ⟨up (by omega) hr, rfl, rfl, by rw [m0]⟩
theorem r_runScript (h : RR x m B I J) (hB : B + 4000 < 2 ^ 29) : an x m (B + 4000) [1] (A_runScript x I).1 (A_runScript x I).2.1 (M_runScript m J).1 (A_runScript x I).2.2 (M_runScript m J).2 := by
  have up : ∀ {B B' : Nat} {I J : ow_I}, B ≤ B' → RR x m B I J → RR x m B' I J := fun hh g => RR_act g hh (st_of g.2.1 hh (fun _ _ _ => rfl) (fun _ _ => rfl)) g.1.1.1 (fun _ _ _ => rfl) (fun _ _ => rfl) (fun _ _ => rfl)
  have h1 := RR_18 (y := nI 0) h
  have z18 : ow_u J m 18 (nI 0) m 18 = nI 0 := ow_u_s _ _ _ _
  unfold A_runScript M_runScript
  rw [lt_eq (ow_u J m 18 (nI 0))]
  generalize ow_u J m 18 (nI 0) = J1 at h1 z18 ⊢
  obtain ⟨⟨a1, a2⟩, a3, a4, a5, a6, a7, a8⟩ := id h1
  obtain ⟨n, n1, n2, n3, n4⟩ := id a6
  have hx : tx (x + 515 + 1) m I J1 n := ⟨n1, n2, n3, n4⟩
  have hv := a3.2.1
  have h6 := hv.2.1
  obtain ⟨nb, hnb⟩ : ∃ nb, nb = tn (J1 (m + 1) 6) := ⟨_, rfl⟩
  have e6 : J1 (m + 1) 6 = nI nb := by rw [hnb, nI_tn h6.1]
  have e8 : I (x + 1) 8 = nI nb := by rw [a3.1.2.2.1.1, e6]
  rw [e8]
  have hs := script_eq (p := x + 515) hx a8 (nb := nb) ⟨by rw [hnb]; exact h6.2.1, by rw [hnb]; exact h6.2.2⟩ e6
  have kp := @okp_sc (x + 515) I (nI nb)
  have km := @okm_sc m J1
  have kb := beg_er hx
  have rA : ∀ b, (b < x + 515 ∨ x + 515 + 46 ≤ b) → (Q_readScript (x + 515) (nI nb) I).2 b = I b := fun b hb => rr_rs hb
  have hX := @au_sc x (nI nb) I a1
  have hC := @cm_sc x (nI nb) I a2
  have rM : ∀ b, b ≠ m → b ≠ m + 4 → b ≠ m + 5 → (M_failsAtScript m J1).2 b = J1 b := fun b z1 z2 z3 => rr_scr z1 z2 z3
  have fM : ∀ k, (k < 6 ∨ k = 12 ∨ (13 < k ∧ k ≠ 15)) → (M_failsAtScript m J1).2 m k = J1 m k := fun k hk => fr_scr hk
  -- what both are after the reading
  have key : ∀ {b : Bool} {A C : ow_I}, (Q_readScript (x + 515) (nI nb) I) = (b, A) → (∃ b', M_failsAtScript m J1 = (b', C)) → pe (x + 515) m A C → RR x m B (ow_u A (x + 515 + 1) 1 (nI 0)) (ow_u C m 5 (nI 0)) ∧ ow_u C m 5 (nI 0) m 18 = nI 0 := by
    intro b A C e1 ⟨b', e2⟩ hp
    rw [e1] at rA hX hC
    rw [e2] at rM fM
    dsimp only at rA hX hC rM fM
    have u1 : ∀ b, b ≠ x + 515 + 1 → ow_u A (x + 515 + 1) 1 (nI 0) b = A b := fun b hb => rr_u hb
    have v1 : ∀ b, b ≠ m → ow_u C m 5 (nI 0) b = C b := fun b hb => rr_u hb
    have vk : ∀ k, k ≠ 5 → ow_u C m 5 (nI 0) m k = C m k := fun k hk => by rw [u_one, if_neg hk]
    have uA : ∀ b, (b < x + 515 ∨ x + 515 + 46 ≤ b) → ow_u A (x + 515 + 1) 1 (nI 0) b = I b := fun b hb => by rw [u1 b (by omega), rA b hb]
    have vC : ∀ b, b ≠ m → b ≠ m + 4 → b ≠ m + 5 → ow_u C m 5 (nI 0) b = J1 b := fun b z1 z2 z3 => by rw [v1 b z1, rM b z1 z2 z3]
    refine ⟨⟨⟨hX, hC⟩, st_of a3 (Nat.le_refl _) (fun b z1 z2 => uA b (by omega)) (fun j _ => by rw [vC _ (by omega) (by omega) (by omega)]), RH_of a4 (Nat.le_refl _) (fun b z1 z2 => uA b (by omega)) (by rw [vk 1 (by decide), fM 1 (by omega)]) (by rw [vk 2 (by decide), fM 2 (by omega)]) (fun j _ _ => by rw [vC _ (by omega) (by omega) (by omega)]), RS_of a5 (Nat.le_refl _) (fun b z => uA b (by omega)) (vC _ (by omega) (by omega) (by omega)) (fun j _ _ => by rw [vC _ (by omega) (by omega) (by omega)]), ⟨0, ow_u_s _ _ _ _, ow_u_s _ _ _ _, by omega, fun i hi => by omega⟩, ?_, RW_of a8 (vC _ (by omega) (by omega) (by omega))⟩, by rw [vk 18 (by decide), fM 18 (by omega), z18]⟩
    unfold RE
    rw [u1 _ (by omega), vk 6 (by decide), vk 7 (by decide)]
    exact hp
  rcases hs with ⟨A, C, n, e1, e2, g1, g2, g3, g4⟩ | ⟨A, C, e1, e2, g⟩
  · have kp := kp (by rw [e1])
    have km := km (by rw [e2])
    rw [e1] at kp
    rw [e2] at km
    dsimp only at kp km
    obtain ⟨hr, h18⟩ := key e1 ⟨_, e2⟩ (by
      unfold pe
      rw [kp.1, kp.2, km.1, km.2]
      exact kb)
    rw [e1, e2]
    rw [lt_p true A, lt_p false C]
    dsimp only
    rw [lt_eq (ow_u A (x + 515 + 1) 1 (nI 0)), if_pos (show true = true from rfl), lt_eq (ow_u C m 5 (nI 0))]
    have eT : M_throwsIf m false (nI 1) (ow_u C m 5 (nI 0)) = (false, ow_u C m 5 (nI 0)) := rfl
    rw [eT, lt_p false]
    dsimp only
    rw [if_neg (show ¬ false = true by decide), lt_eq, lt_eq]
    have c2 : ∀ j, j < n → cmr (x + 515) m j nb (ow_u A (x + 515 + 1) 1 (nI 0)) (ow_u C m 5 (nI 0)) := fun j hj => cmr_of (g4 j hj) (rr_u (by omega)) (rr_u (by omega)) (fun q _ _ => by rw [rr_u (by omega)])
    have d15 : ow_u C m 5 (nI 0) m 15 = nI n := by rw [u_one, if_neg (by decide), g2]
    have d3 : ow_u A (x + 515 + 1) 1 (nI 0) (x + 515) 3 = nI n := by rw [rr_u (by omega), g3]
    have d6 : tn (ow_u C m 5 (nI 0) (m + 1) 6) = nb := by
      have r := rM (m + 1) (by omega) (by omega) (by omega)
      rw [e2] at r
      dsimp only at r
      rw [rr_u (by omega), r, hnb]
    generalize ow_u A (x + 515 + 1) 1 (nI 0) = I2 at hr c2 d3 ⊢
    generalize ow_u C m 5 (nI 0) = J2 at hr c2 d15 d6 h18 ⊢
    have hr3 := RR_rem hr
    have ho := keepO hr
    have k18 := (keep18 hr).trans h18
    have er : ∀ b, b < x + 103 ∨ x + 513 ≤ b → H_remember (x + 103) (x + 1) I2 b = I2 b := fun b hb => remR hr hb
    obtain ⟨q1, q2, q3, q4⟩ := run_loop (n := n) (nb := nb) 21 0 B (H_remember (x + 103) (x + 1) I2) (M_keep m 0 J2) hr3 (by rw [fr_keep ho.1 ho.2 (by decide) (by decide), d15]) (by rw [er _ (by omega), d3]) g1 (fun j hj => cmr_of (c2 j hj) (er _ (by omega)) (er _ (by omega)) (fun q _ _ => by rw [rr_keep ho.1 ho.2 (by omega) (by omega)])) (by rw [keepC hr (by omega), d6]) (Nat.zero_le _) (by omega) (by omega)
    refine ⟨up (by omega) q1, ?_, fun _ => q3⟩
    rw [q4, k18, q2]
    rfl
  · obtain ⟨hr, h18⟩ := key e1 ⟨_, e2⟩ g
    rw [e1, e2]
    rw [lt_p false A, lt_p true C]
    dsimp only
    rw [lt_eq (ow_u A (x + 515 + 1) 1 (nI 0)), if_neg (show ¬ false = true by decide), lt_eq (ow_u C m 5 (nI 0))]
    have eT : M_throwsIf m true (nI 1) (ow_u C m 5 (nI 0)) = (true, ow_u (ow_u C m 5 (nI 0)) m 18 (nI 1)) := rfl
    rw [eT, lt_p true]
    dsimp only
    rw [if_pos (show true = true from rfl)]
    exact ⟨up (by omega) (RR_18 hr), ow_u_s _ _ _ _, fun z => ns0 z⟩
end RUN
