/-! THE BARRELS OF A SETUP -/
section BRS
variable {p m a c : Nat} {I J I' J' : ow_I}
theorem fb_loop {N P : Nat} : ∀ (k c : Nat) (Y : ow_I), c ≤ N → N ≤ 9 → N - c < k → tn (Y m 13) = N + 1 → Y (m + 1) (66 + 15 * P) = nI c →
    ∃ Y', M_failsAtFirstBarrel_L40 m k Y P (c + 1) = M_failsAtEnd m Y' ∧ Y' (m + 1) = md_fill (Y (m + 1)) P c (fun j => Y (m + 4) (c + 1 + j)) (N - c) ∧ ∀ b, b ≠ m + 1 → Y' b = Y b := by
  intro k
  induction k with
  | zero => intro c Y h1 h2 h3; omega
  | succ k ih =>
    intro c Y h1 h2 h3 h13 hc
    unfold M_failsAtFirstBarrel_L40
    rw [h13]
    by_cases d : N ≤ c
    · rw [if_pos (show N + 1 ≤ c + 1 by omega)]
      exact ⟨Y, rfl, by rw [show N - c = 0 by omega, fill_0 hc], fun _ _ => rfl⟩
    · rw [if_neg (show ¬ N + 1 ≤ c + 1 by omega), lt_eq]
      have q1 : tn (M_ofBarrel m P 0 Y) = c := by show tn (Y (m + 1) (66 + 15 * P)) = c; rw [hc, tn_nI (by omega)]
      have g1 : M_addEel m P (Y (m + 4) (c + 1)) Y (m + 1) (66 + 15 * P) = nI (c + 1) := by
        simp (disch := omega) only [M_addEel, M_putBarrel, lt_eq, u_one, if_neg, if_pos, if_true, q1]
      obtain ⟨Y', e1, e2, e3⟩ := ih (c + 1) (M_addEel m P (Y (m + 4) (c + 1)) Y) (by omega) h2 (by omega) (by rw [rr_addEel (by omega)]; exact h13) g1
      refine ⟨Y', e1, ?_, fun b hb => by rw [e3 b hb, rr_addEel hb]⟩
      rw [e2]
      have q3 := @fill_s m P c (N - (c + 1)) (fun j => Y (m + 4) (c + 1 + j)) Y hc (by omega)
      rw [show N - (c + 1) + 1 = N - c by omega] at q3
      rw [← q3]
      congr 1
      funext j
      rw [rr_addEel (by omega)]
      exact congrArg (Y (m + 4)) (by omega)
/-- one barrel of a setup: G is what the class does then -/
theorem fst_eq {i : Nat} {G : ow_I → Bool × ow_I} (hd : a + 51 ≤ p ∨ p + 46 ≤ a) (ht : tk (p + 1) m I J) (hR : RW m J) (hP : ps a m I J) (h6 : 1 ≤ tn (J (m + 1) 6)) (h7 : tn (J (m + 1) 7) = i) (hi : i < 20) :
    (∃ A C, lt (U_advance (p + 1) I) (fun (I1 : ow_I) => lt (Q_readBarrel p (p + 4) I1) (fun (r2 : Bool × ow_I) => if r2.1 then lt (Q_takeSemicolon p r2.2) (fun (r3 : Bool × ow_I) => if r3.1 then lt (K_takeBarrel a (r3.2 (p + 4) 1) ((p + 4) + 1) 0 (tn (r3.2 (p + 4) 4)) r3.2) (fun (r4 : Int32 × ow_I) => G r4.2) else (false, r3.2)) else (false, r2.2))) = G A ∧ M_failsAtFirstBarrel m J = (false, C) ∧ tk (p + 1) m A C ∧ ps a m A C ∧ RW m C ∧ 1 ≤ tn (C (m + 1) 6) ∧ tn (C (m + 1) 7) = i + 1) ∨
    (∃ A C, lt (U_advance (p + 1) I) (fun (I1 : ow_I) => lt (Q_readBarrel p (p + 4) I1) (fun (r2 : Bool × ow_I) => if r2.1 then lt (Q_takeSemicolon p r2.2) (fun (r3 : Bool × ow_I) => if r3.1 then lt (K_takeBarrel a (r3.2 (p + 4) 1) ((p + 4) + 1) 0 (tn (r3.2 (p + 4) 4)) r3.2) (fun (r4 : Int32 × ow_I) => G r4.2) else (false, r3.2)) else (false, r2.2))) = (false, A) ∧ M_failsAtFirstBarrel m J = (true, C) ∧ pe p m A C) := by
  have hB := hP.2.1
  have hv := B_V hB h6
  have n7 : ¬ J (m + 1) 7 = nI 20 := fun z => by rw [z, tn_nI (by decide)] at h7; omega
  have hst := @B_1st m J hB
  have hrr : ∀ {b : Nat}, b ≠ m → b ≠ m + 1 → b ≠ m + 4 → (M_failsAtFirstBarrel m J).2 b = J b := fun h1 h2 h3 => rr_1st h1 h2 h3
  rw [lt_eq]
  have t0 := tok_next ht
  have r0 : ∀ b, b ≠ p + 1 → U_advance (p + 1) I b = I b := fun b hb => rr_adv hb
  generalize U_advance (p + 1) I = I0 at t0 r0 ⊢
  have eF : M_failsAtFirstBarrel m J = lt (M_failsAtBarrel m J) (fun (r1 : Bool × ow_I) => if r1.1 then (true, r1.2) else lt (M_newBarrel m (r1.2 (m + 4) 0) r1.2) (fun (r2 : Nat × ow_I) => M_failsAtFirstBarrel_L40 m 11 r2.2 r2.1 1)) := by
    show (if J (m + 1) 7 = nI 20 then _ else _) = _
    rw [if_neg n7]
  have rA : ∀ b, b ≠ p → b ≠ p + 1 → b ≠ p + 4 → b ≠ p + 4 + 1 → (Q_readBarrel p (p + 4) I0).2 b = I0 b := fun b h1 h2 h3 h4 => rr_qb h1 h2 h3 h4
  have rC : ∀ b, b ≠ m → b ≠ m + 4 → (M_failsAtBarrel m J).2 b = J b := fun b h1 h2 => rr_brl h1 h2
  rcases brl_eq (c := p + 4) ⟨by omega, by omega, by omega, by omega⟩ t0 with ⟨A, C, e1, e2, g1, ⟨n, b1, b2, b3, b4, b5⟩, r, d1, d2, d3, d4⟩ | ⟨A, C, e1, e2, g⟩
  · rw [e1] at rA
    rw [e2] at rC
    have rA : ∀ b, b ≠ p → b ≠ p + 1 → b ≠ p + 4 → b ≠ p + 4 + 1 → A b = I0 b := rA
    have rC : ∀ b, b ≠ m → b ≠ m + 4 → C b = J b := rC
    have cm : C (m + 1) = J (m + 1) := rC _ (by omega) (by omega)
    rw [e2, lt_p false] at eF
    dsimp only at eF
    rw [if_neg (show ¬ false = true by decide), lt_eq, d2, rdNB1] at eF
    have h12 : tn (C (m + 1) 12) < 20 := by rw [cm, hB.2.2.2.2.2.1, h7]; exact hi
    have c7 : tn (C (m + 1) 7) = i := by rw [cm, h7]
    have nb13 : tn ((M_newBarrel m (nI r) C).2 m 13) = n + 1 := by rw [rr_newBarrel (by omega), b2, tn_nI (by omega)]
    have nb0 : (M_newBarrel m (nI r) C).2 (m + 1) (66 + 15 * tn (C (m + 1) 7)) = nI 0 := rdNB0 h12
    obtain ⟨Y', y1, y2, y3⟩ := @fb_loop m n (tn (C (m + 1) 7)) 11 0 (M_newBarrel m (nI r) C).2 (Nat.zero_le _) b4 (by omega) nb13 nb0
    rw [y1] at eF
    have y4 : ∀ b, b ≠ m + 1 → Y' b = C b := fun b hb => by rw [y3 b hb, rr_newBarrel hb]
    have ty : tk (p + 1) m A Y' := tk_row g1 rfl rfl (y4 _ (by omega)) (y4 _ (by omega))
    rw [e1, lt_p true]
    dsimp only
    rw [if_pos (show true = true from rfl)]
    rcases semi_st ty with ⟨R, S, s1, s2, s3, s4, s5, s6, s7⟩ | ⟨R, S, s1, s2, s3⟩
    · left
      rw [s1, lt_p true]
      dsimp only
      rw [if_pos (show true = true from rfl), lt_eq]
      rw [s2] at eF
      have kr : R (p + 4) 1 = nI r := by rw [s4 _ (by omega) (by omega), d1]
      have kn : tn (R (p + 4) 4) = n := by rw [s4 _ (by omega) (by omega), b1, tn_nI (by omega)]
      rw [kr, kn]
      have rR : ∀ b, a ≤ b → b < a + 51 → R b = I b := fun b z1 z2 => by rw [s4 b (by omega) (by omega), rA b (by omega) (by omega) (by omega) (by omega), r0 b (by omega)]
      have hrl : rl a R (C (m + 1)) := by
        rw [cm]
        exact rl_I0 hP.1 hB rR
      have hvC : md_V (C (m + 1)) := by rw [cm]; exact hv
      obtain ⟨u1, u2⟩ := @rl_take a m R C (nI r) (p + 4 + 1) 0 n hrl hvC (by omega) (by omega) (by omega) b4 (fun j => C (m + 4) (1 + j)) (fun j hj => by
        obtain ⟨l, q1, q2, -⟩ := b5 j (by omega)
        rw [s4 _ (by omega) (by omega), Nat.zero_add, q1, q2])
      rw [Nat.sub_zero] at u1
      have src : (fun j => (M_newBarrel m (nI r) C).2 (m + 4) (0 + 1 + j)) = fun j => C (m + 4) (1 + j) := by
        funext j
        rw [rr_newBarrel (by omega), Nat.zero_add]
      rw [src, Nat.sub_zero] at y2
      have sm : S (m + 1) = md_fill ((M_newBarrel m (nI r) C).2 (m + 1)) (tn (C (m + 1) 7)) 0 (fun j => C (m + 4) (1 + j)) n := by rw [s6 _ (by omega), y2]
      have hiv := iv_take (m := m) (J := C) (B := 0) (r := nI r) (src := fun j => C (m + 4) (1 + j)) (cnt := n) hvC (by rw [cm]; exact hP.2.2) (by omega) b3 b4 ⟨r, rfl, d3, d4⟩ (fun j hj => by
        obtain ⟨l, -, q2, q3, q4⟩ := b5 j hj
        exact ⟨l, q2, q3, q4⟩)
      have hS := hst (by rw [eF])
      rw [eF] at hS hrr
      have hS : md_B (S (m + 1)) ∧ tn (S (m + 1) 7) = tn (J (m + 1) 7) + 1 ∧ S (m + 1) 6 = J (m + 1) 6 := hS
      have rt : ∀ b, (b < a ∨ a + 51 ≤ b) → (K_takeBarrel a (nI r) (p + 4 + 1) 0 n R).2 b = R b := fun b hb => rr_tbar hb (by rw [hrl.2.2.1.2.1, cm]; exact hB.2.2.1.1)
      refine ⟨_, S, rfl, eF, tk_row s3 (rt _ (by omega)) (rt _ (by omega)) rfl rfl, ⟨?_, hS.1, ?_⟩, RW_of hR (hrr (by omega) (by omega) (by omega)), by rw [hS.2.2]; exact h6, by rw [hS.2.1, h7]⟩
      · rw [sm]
        exact u1
      · rw [sm]
        exact hiv
    · right
      rw [s1, lt_p false]
      dsimp only
      rw [if_neg (show ¬ false = true by decide)]
      rw [s2] at eF
      exact ⟨R, S, rfl, eF, s3⟩
  · right
    rw [e2, lt_p true] at eF
    dsimp only at eF
    rw [if_pos (show true = true from rfl)] at eF
    rw [e1, lt_p false]
    dsimp only
    rw [if_neg (show ¬ false = true by decide)]
    exact ⟨A, C, rfl, eF, g⟩
theorem brs_loop (hd : a + 51 ≤ p ∨ p + 46 ≤ a) : ∀ (k i : Nat) (I J : ow_I), i ≤ 20 → 20 - i < k → tk (p + 1) m I J → RW m J → ps a m I J → 1 ≤ tn (J (m + 1) 6) → tn (J (m + 1) 7) = i →
    (∃ A C, Q_readBarrels_L2 p a (k + 1) I i = (true, A) ∧ M_failsAtSetup_L37 m k J = (if C m 9 = 0 then (false, C) else M_fails m (nI 1) C) ∧ tk (p + 1) m A C ∧ ps a m A C ∧ 1 ≤ tn (C (m + 1) 6)) ∨ (∃ A C, Q_readBarrels_L2 p a (k + 1) I i = (false, A) ∧ M_failsAtSetup_L37 m k J = (true, C) ∧ pe p m A C) := by
  intro k
  induction k with
  | zero => intro i I J h1 h2; omega
  | succ k ih =>
    intro i I J h1 h2 ht hR hP h6 h7
    obtain ⟨q, hq, w1, w2, -⟩ := wo_eq ht hR
    have eQ : Q_readBarrels_L2 p a (k + 1 + 1) I i = (if 20 < i then (true, I) else if U_isWord (p + 1) 2 I then if i = 20 then lt (Q_fail p (nI 3) I) (fun (r5 : Bool × ow_I) => (r5.1, r5.2)) else lt (U_advance (p + 1) I) (fun (I1 : ow_I) => lt (Q_readBarrel p (p + 4) I1) (fun (r2 : Bool × ow_I) => if r2.1 then lt (Q_takeSemicolon p r2.2) (fun (r3 : Bool × ow_I) => if r3.1 then lt (K_takeBarrel a (r3.2 (p + 4) 1) ((p + 4) + 1) 0 (tn (r3.2 (p + 4) 4)) r3.2) (fun (r4 : Int32 × ow_I) => Q_readBarrels_L2 p a (k + 1) r4.2 (i + 1)) else (false, r3.2)) else (false, r2.2))) else (true, I)) := rfl
    rw [eQ, if_neg (show ¬ 20 < i by omega)]
    unfold M_failsAtSetup_L37
    by_cases c : U_isWord (p + 1) 2 I = true
    · have q0 := (w2 2 (by decide)).mp c
      have w : M_wordOf m J = nI 2 := by rw [w1, ← q0]
      rw [if_pos c, if_pos w]
      by_cases d : i = 20
      · right
        rw [if_pos d]
        obtain ⟨f1, f2, f3⟩ := fail_er (c := nI 3) ht
        unfold M_failsAtFirstBarrel
        rw [if_pos (show J (m + 1) 7 = nI 20 by rw [← nI_tn hP.2.1.2.2.1.1, h7, d]), prod_eq f1, prod_eq f2, lt_p false, lt_p true]
        dsimp only
        rw [lt_p true]
        dsimp only
        rw [if_pos (show true = true from rfl)]
        exact ⟨_, _, rfl, rfl, f3⟩
      · rw [if_neg d]
        rcases fst_eq (G := fun X => Q_readBarrels_L2 p a (k + 1) X (i + 1)) hd ht hR hP h6 h7 (by omega) with ⟨A, C, e1, e2, g1, g2, g3, g4, g5⟩ | ⟨A, C, e1, e2, g⟩
        · rw [e1, e2, lt_p false]
          dsimp only
          rw [if_neg (show ¬ false = true by decide)]
          exact ih (i + 1) A C (by omega) (by omega) g1 g3 g2 g4 g5
        · right
          rw [e1, e2, lt_p true]
          dsimp only
          rw [if_pos (show true = true from rfl)]
          exact ⟨_, _, rfl, rfl, g⟩
    · have q0 : ¬ M_wordOf m J = nI 2 := fun z => c ((w2 2 (by decide)).mpr ((nI_eq (by omega) (by decide)).mp (w1.symm.trans z)).symm)
      rw [if_neg c, if_neg q0]
      refine Or.inl ⟨I, J, rfl, ?_, ht, hP, h6⟩
      by_cases z : J m 9 = 0
      · rw [if_pos z, if_pos z]
      · rw [if_neg z, if_neg z]
        rfl
/-- a setup read by both -/
theorem set_eq {n : Nat} (hd : a + 51 ≤ p ∨ p + 46 ≤ a) (hx : tx (p + 1) m I J n) (hR : RW m J) :
    pr p m (fun A C => ps a m A C ∧ 1 ≤ tn (C (m + 1) 6)) (Q_readSetup p a I) (M_failsAtSetup m J) := by
  have t0 := beg_eq hx
  have eM : M_failsAtSetup m J = lt (M_failsAtMarket m (M_beginText m J)) (fun (r2 : Bool × ow_I) => if r2.1 then (true, r2.2) else lt (M_failsAtBuyer m r2.2) (fun (r3 : Bool × ow_I) => if r3.1 then (true, r3.2) else M_failsAtSetup_L20 m 7 r3.2)) := rfl
  have eQ : Q_readSetup p a I = lt (Q_readMarket p a (K_beginEmpty a (Q_begin p I))) (fun (r3 : Bool × ow_I) => if r3.1 then lt (lt (Q_readBuyer p a r3.2) (fun (r1 : Bool × ow_I) => if r1.1 then Q_readBuyers_L12 p a 7 r1.2 1 else (false, r1.2))) (fun (r4 : Bool × ow_I) => if r4.1 then lt (Q_readBarrels_L2 p a 22 r4.2 0) (fun (r5 : Bool × ow_I) => if r5.1 then if r5.2 (p + 1) 2 = 0 then (true, r5.2) else lt (Q_fail p (nI 1) r5.2) (fun (r6 : Bool × ow_I) => if r6.1 then (true, r6.2) else (false, r6.2)) else (false, r5.2)) else (false, r4.2)) else (false, r3.2)) := rfl
  rw [eM, eQ]
  have hR0 : RW m (M_beginText m J) := RW_of hR (rr_tx (by omega))
  have t1 : tk (p + 1) m (K_beginEmpty a (Q_begin p I)) (M_beginText m J) := tk_row t0 (be_rr (by omega) (by omega)) (be_rr (by omega) (by omega)) rfl rfl
  rcases mkt_eq hd t1 hR0 em_be with ⟨A, C, e1, e2, g1, g2, g3⟩ | ⟨A, C, e1, e2, g⟩
  · have c6 : tn (C (m + 1) 6) = 0 ∧ tn (C (m + 1) 7) = 0 := by
      have := @B_mkt m (M_beginText m J) (by rw [e2])
      rw [e2] at this
      dsimp only at this
      rw [this.2.1, this.2.2]
      exact ⟨rfl, rfl⟩
    rw [e1, e2, lt_p true, lt_p false]
    dsimp only
    rw [if_pos (show true = true from rfl), if_neg (show ¬ false = true by decide)]
    rcases byr_eq hd g1 g3 g2 c6.1 (by decide) c6.2 with ⟨A1, C1, e1, e2, k1, k2, k3, k4, k5⟩ | ⟨A1, C1, e1, e2, g⟩
    · rw [e1, e2, lt_p true, lt_p false]
      dsimp only
      rw [if_pos (show true = true from rfl), if_neg (show ¬ false = true by decide)]
      rcases byrs_loop hd 7 1 A1 C1 (by decide) (by decide) (by decide) k1 k3 k2 k4 k5 with ⟨A2, C2, e1, e2, l1, l2, l3, l4, l5⟩ | ⟨A2, C2, e1, e2, g⟩
      · rw [e1, e2, lt_p true]
        dsimp only
        rw [if_pos (show true = true from rfl)]
        rcases brs_loop hd 21 0 A2 C2 (by decide) (by decide) l1 l3 l2 l4 l5 with ⟨A3, C3, e1, e2, m1, m2, m3⟩ | ⟨A3, C3, e1, e2, g⟩
        · rw [e1, e2, lt_p true]
          dsimp only
          rw [if_pos (show true = true from rfl)]
          by_cases z : C3 m 9 = 0
          · rw [if_pos (show A3 (p + 1) 2 = 0 from (tk_k m1).1.trans z), if_pos z]
            exact pr_t ⟨m2, m3⟩
          · obtain ⟨f1, f2, f3⟩ := fail_er (c := nI 1) m1
            rw [if_neg (show ¬ A3 (p + 1) 2 = 0 from fun y => z ((tk_k m1).1.symm.trans y)), if_neg z, prod_eq f1, prod_eq f2, lt_p false]
            dsimp only
            rw [if_neg (show ¬ false = true by decide)]
            exact pr_f f3
        · rw [e1, e2, lt_p false]
          dsimp only
          rw [if_neg (show ¬ false = true by decide)]
          exact pr_f g
      · rw [e1, e2, lt_p false]
        dsimp only
        rw [if_neg (show ¬ false = true by decide)]
        exact pr_f g
    · rw [e1, e2, lt_p false, lt_p true]
      dsimp only
      rw [if_neg (show ¬ false = true by decide), if_pos (show true = true from rfl), lt_p false]
      dsimp only
      rw [if_neg (show ¬ false = true by decide)]
      exact pr_f g
  · rw [e1, e2, lt_p false, lt_p true]
    dsimp only
    rw [if_neg (show ¬ false = true by decide), if_pos (show true = true from rfl)]
    exact pr_f g
end BRS
