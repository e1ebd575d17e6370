/-! A SETUP READ: market, buyers, barrels -/
def ps (a m : Nat) (I J : ow_I) : Prop := rl a I (J (m + 1)) ∧ md_B (J (m + 1)) ∧ iv 0 (J (m + 1))
theorem rl_I0 {a : Nat} {I I' : ow_I} {f : Nat → Int32} (h : rl a I f) (hb : md_B f) (e : ∀ b, a ≤ b → b < a + 51 → I' b = I b) : rl a I' f := by
  have h6 := hb.2.1.2
  have h7 := hb.2.2.1.2
  obtain ⟨⟨t1, t2, t3⟩, ⟨s1, s2, s3, s4, s5, s6⟩, ⟨c1, c2, c3⟩, ⟨b1, b2, b3, b4⟩, hY, hQ, hB⟩ := h
  have ea := e a (by omega) (by omega)
  have e1 := e (a + 1) (by omega) (by omega)
  refine ⟨?_, ?_, ?_, ?_, fun i hi w hw => by rw [e _ (by omega) (by omega)]; exact hY i hi w hw, fun i hi => by rw [e _ (by omega) (by omega)]; exact hQ i hi, fun k hk => by rw [e _ (by omega) (by omega), e _ (by omega) (by omega)]; exact hB k hk⟩
  · rw [e1]; exact ⟨t1, t2, t3⟩
  · rw [ea]; exact ⟨s1, s2, s3, s4, s5, s6⟩
  · rw [ea]; exact ⟨c1, c2, c3⟩
  · rw [ea]; exact ⟨b1, b2, b3, b4⟩
section SET
variable {p m a : Nat} {I J I' J' : ow_I}
theorem pm_eta {α β : Type} (r : α × β) : (r.1, r.2) = r := rfl
theorem lt_p {α : Type} (b : Bool) (X : ow_I) (f : Bool × ow_I → α) : lt (b, X) f = f (b, X) := rfl
theorem word_t {w : Nat} (h : U_isWord (p + 1) w I = true) : Q_takeWord p w I = (true, U_advance (p + 1) I) := by
  simp only [Q_takeWord, lt_eq]
  rw [if_pos h]
theorem word_f {w : Nat} (h : ¬ U_isWord (p + 1) w I = true) : Q_takeWord p w I = Q_fail p (nI 1) I := by
  simp only [Q_takeWord, lt_eq]
  rw [if_neg h]
theorem pr_f {P : ow_I → ow_I → Prop} {A C : ow_I} (h : pe p m A C) : pr p m P (false, A) (true, C) := Or.inr ⟨A, C, rfl, rfl, h⟩
theorem pr_t {P : ow_I → ow_I → Prop} {A C : ow_I} (h : P A C) : pr p m P (true, A) (false, C) := Or.inl ⟨A, C, rfl, rfl, h⟩
theorem pr_m {P Q : ow_I → ow_I → Prop} {R S : Bool × ow_I} (h : pr p m P R S) (g : ∀ A C, R = (true, A) → S = (false, C) → P A C → Q A C) : pr p m Q R S := by
  rcases h with ⟨A, C, h1, h2, h3⟩ | h
  · exact Or.inl ⟨A, C, h1, h2, g A C h1 h2 h3⟩
  · exact Or.inr h
/-- what K_beginEmpty leaves -/
def em (a : Nat) (I : ow_I) : Prop := I (a + 1) 2 = nI 0 ∧ I a 4 = nI 0 ∧ I a 5 = nI 0 ∧ I a 6 = nI 0 ∧ I a 8 = nI 0 ∧ I a 10 = nI 0 ∧ I a 12 = nI 0 ∧ I a 13 = -1 ∧ I a 14 = -1 ∧ I a 15 = -1 ∧ I a 16 = -1
theorem em_be : em a (K_beginEmpty a I) := by
  simp only [K_beginEmpty, K_endBidding, lt_eq]
  refine ⟨?_, ?_, ?_, ?_, ?_, ?_, ?_, ?_, ?_, ?_, ?_⟩ <;> simp (disch := omega) only [u_one, rr_u, if_neg, if_pos, if_true]
theorem be_rr {b : Nat} (h : b ≠ a) (h1 : b ≠ a + 1) : K_beginEmpty a I b = I b := by
  simp only [K_beginEmpty, K_endBidding, lt_eq]
  simp (disch := omega) only [rr_u]
theorem em_row (h : em a I) (e : I' a = I a) (e1 : I' (a + 1) 2 = I (a + 1) 2) : em a I' := by
  unfold em
  rw [e, e1]
  exact h
/-- a market just begun -/
theorem ps_0 {v0 v1 v2 v3 v4 : Nat} {X : ow_I} (h : em a I) (e0 : I (a + 1) 0 = nI v0) (e1 : I (a + 1) 1 = nI v1) (e2 : I a 1 = nI v2) (e3 : I a 2 = nI v3) (e4 : I a 3 = nI v4) (h0 : 5 ≤ v0 ∧ v0 ≤ 60) (h1 : 1 ≤ v1 ∧ v1 ≤ v0) (h2 : 1 ≤ v2 ∧ v2 ≤ 9) (h3 : 1 ≤ v3 ∧ v3 ≤ 50) (h4 : v4 ≤ 50) :
    ps a m I (M_beginMarket m (nI v0) (nI v1) (nI v2) (nI v3) (nI v4) X) := by
  have c := fun k => @bm_cells m (nI v0) (nI v1) (nI v2) (nI v3) (nI v4) X k
  obtain ⟨B1, B2, B3⟩ := @B_bm m (nI v0) (nI v1) (nI v2) (nI v3) (nI v4) X (fun z => by
    have := (nI_z (by omega)).mp z
    omega)
  generalize M_beginMarket m (nI v0) (nI v1) (nI v2) (nI v3) (nI v4) X = Y at c B1 B2 B3 ⊢
  obtain ⟨g1, g2, g3, g4, g5, g6, g7, g8, g9, g10, g11⟩ := h
  have c0 := c 0; have c1 := c 1; have c2 := c 2; have c3 := c 3; have c4 := c 4; have c5 := c 5; have c6 := c 6; have c7 := c 7; have c8 := c 8; have c9 := c 9; have c10 := c 10; have c11 := c 11; have c12 := c 12; have c13 := c 13; have c14 := c 14; have c15 := c 15
  simp (disch := omega) only [if_neg, if_pos, if_true] at c0 c1 c2 c3 c4 c5 c6 c7 c8 c9 c10 c11 c12 c13 c14 c15
  have t6 : tn (Y (m + 1) 6) = 0 := by rw [c6]; rfl
  have t7 : tn (Y (m + 1) 7) = 0 := by rw [c7]; rfl
  have t12 : tn (Y (m + 1) 12) = 0 := by rw [c12]; rfl
  refine ⟨⟨⟨by rw [e0, c0], by rw [e1, c1], by rw [g1, c5]; rfl⟩, ⟨by rw [e2, c2], by rw [e3, c3], by rw [e4, c4], by rw [g2, c13]; rfl, by rw [g3, c14]; rfl, by rw [g4, c15]; rfl⟩, ⟨by rw [g5, c6]; rfl, by rw [g6, c7]; rfl, by rw [g7, c12]; rfl⟩, ⟨by rw [g8, c8], by rw [g10, c10], by rw [g9, c10, if_pos rfl], by rw [g11, c8, if_pos rfl]⟩, fun i hi => by omega, fun i hi => by omega, fun i hi => by omega⟩, B1, ⟨⟨v0, v1, c0, h0.1, h0.2, c1, h1.1, h1.2⟩, ⟨v2, c2, h2.1, h2.2⟩, ⟨v3, c3, h3.1, h3.2⟩, ⟨v4, c4, h4⟩, 0, by rw [c5]; rfl, Nat.le_refl _⟩, fun i hi => by omega, fun i hi => by omega, fun z => ?_, fun z => ?_, 0, by rw [c13]; rfl, Nat.zero_le _⟩
  · rw [c8] at z
    exact absurd z (by decide)
  · rw [c10] at z
    exact absurd z (by decide)
theorem mkt_eq (hd : a + 51 ≤ p ∨ p + 46 ≤ a) (ht : tk (p + 1) m I J) (hR : RW m J) (hE : em a I) : pr p m (fun A C => tk (p + 1) m A C ∧ ps a m A C ∧ RW m C) (Q_readMarket p a I) (M_failsAtMarket m J) := by
  obtain ⟨q, hq, w1, w2, -⟩ := wo_eq ht hR
  have key : pr p m (fun A C => tk (p + 1) m A C ∧ ps a m A C) (Q_readMarket p a I) (M_failsAtMarket m J) := by
    unfold Q_readMarket M_failsAtMarket
    by_cases c : U_isWord (p + 1) 0 I = true
    · have q0 := (w2 0 (by decide)).mp c
      rw [word_t c, lt_p true]
      dsimp only
      rw [if_pos (show true = true from rfl), if_pos (show M_wordOf m J = 0 by rw [w1, ← q0]; rfl)]
      have t0 := tok_next ht
      have E0 : em a (U_advance (p + 1) I) := em_row hE (rr_adv (by omega)) (by rw [rr_adv (by omega)])
      generalize U_advance (p + 1) I = I0 at t0 E0 ⊢
      rcases num_st (q := 0) (lo := 5) (hi := 60) t0 (by decide) (by decide) with ⟨v0, R1, S1, a1, a2, a3, a4, t1, b1, b2, f1, -, -, f3, -⟩ | ⟨R, S, a1, a2, a3⟩
      · rw [a1, a2, lt_p true R1, lt_p false S1]
        dsimp only
        rw [if_pos (show true = true from rfl), if_neg (show ¬ false = true by decide), lt_eq]
        rw [ow_u_s, b1, b2]
        have t1' : tk (p + 1) m (ow_u R1 (a + 1) 0 (nI v0)) (M_readToken m S1) := tk_row t1 (rr_u (by omega)) (rr_u (by omega)) rfl rfl
        have E1 : em a (ow_u R1 (a + 1) 0 (nI v0)) := em_row E0 (by rw [rr_u (by omega), f1 _ (by omega) (by omega)]) (by rw [u_one, if_neg (by decide), f1 _ (by omega) (by omega)])
        have d0 : ow_u R1 (a + 1) 0 (nI v0) (a + 1) 0 = nI v0 := ow_u_s _ _ _ _
        generalize ow_u R1 (a + 1) 0 (nI v0) = I1 at t1' E1 d0 ⊢
        rcases num_st (q := 1) (lo := 1) (hi := v0) t1' (by decide) (by omega) with ⟨v1, R2, S2, a1, a2, a5, a6, t2, b3, b4, f1, -, -, f4, -⟩ | ⟨R, S, a1, a2, a3⟩
        · rw [a1, a2, lt_p true R2, lt_p false S2]
          dsimp only
          rw [if_pos (show true = true from rfl), if_neg (show ¬ false = true by decide), lt_eq]
          rw [b3]
          have t2' : tk (p + 1) m (ow_u R2 (a + 1) 1 (nI v1)) (M_readToken m S2) := tk_row t2 (rr_u (by omega)) (rr_u (by omega)) rfl rfl
          have E2 : em a (ow_u R2 (a + 1) 1 (nI v1)) := em_row E1 (by rw [rr_u (by omega), f1 _ (by omega) (by omega)]) (by rw [u_one, if_neg (by decide), f1 _ (by omega) (by omega)])
          have d1 : ow_u R2 (a + 1) 1 (nI v1) (a + 1) 0 = nI v0 ∧ ow_u R2 (a + 1) 1 (nI v1) (a + 1) 1 = nI v1 := ⟨by rw [u_one, if_neg (by decide), f1 _ (by omega) (by omega), d0], ow_u_s _ _ _ _⟩
          generalize ow_u R2 (a + 1) 1 (nI v1) = I2 at t2' E2 d1 ⊢
          rcases num_st (q := 2) (lo := 1) (hi := 9) t2' (by decide) (by decide) with ⟨v2, R3, S3, a1, a2, a7, a8, t3, b5, b6, f1, -, -, f5, -⟩ | ⟨R, S, a1, a2, a3⟩
          · rw [a1, a2, lt_p true R3, lt_p false S3]
            dsimp only
            rw [if_pos (show true = true from rfl), if_neg (show ¬ false = true by decide), lt_eq]
            rw [b5]
            have t3' : tk (p + 1) m (ow_u R3 a 1 (nI v2)) (M_readToken m S3) := tk_row t3 (rr_u (by omega)) (rr_u (by omega)) rfl rfl
            have r1 : ∀ b, (b = a ∨ b = a + 1) → R3 b = I2 b := fun b hb => f1 b (by omega) (by omega)
            rcases num_st (q := 3) (lo := 1) (hi := 50) t3' (by decide) (by decide) with ⟨v3, R4, S4, a1, a2, a9, a10, t4, b7, b8, g1, -, -, f6, -⟩ | ⟨R, S, a1, a2, a3⟩
            · rw [a1, a2, lt_p true R4, lt_p false S4]
              dsimp only
              rw [if_pos (show true = true from rfl), if_neg (show ¬ false = true by decide), lt_eq]
              rw [b7]
              have t4' : tk (p + 1) m (ow_u R4 a 2 (nI v3)) (M_readToken m S4) := tk_row t4 (rr_u (by omega)) (rr_u (by omega)) rfl rfl
              have r2 : ∀ b, (b = a ∨ b = a + 1) → R4 b = ow_u R3 a 1 (nI v2) b := fun b hb => g1 b (by omega) (by omega)
              rcases num_st (q := 4) (lo := 0) (hi := 50) t4' (by decide) (by decide) with ⟨v4, R5, S5, a1, a2, -, a11, t5, b9, b10, g1, -, -, f7, -, ⟨Ib, ib1, ib2⟩⟩ | ⟨R, S, a1, a2, a3⟩
              · rw [a1, a2, lt_p true R5, lt_p false S5]
                dsimp only
                rw [if_pos (show true = true from rfl), if_neg (show ¬ false = true by decide), lt_eq]
                have r3 : ∀ b, (b = a ∨ b = a + 1) → R5 b = ow_u R4 a 2 (nI v3) b := fun b hb => g1 b (by omega) (by omega)
                have s0 : S5 (m + 4) 0 = nI v0 := by rw [f7 0 (by decide), f6 0 (by decide), f5 0 (by decide), f4 0 (by decide), b2]
                have s1 : S5 (m + 4) 1 = nI v1 := by rw [f7 1 (by decide), f6 1 (by decide), f5 1 (by decide), b4]
                have s2 : S5 (m + 4) 2 = nI v2 := by rw [f7 2 (by decide), f6 2 (by decide), b6]
                have s3 : S5 (m + 4) 3 = nI v3 := by rw [f7 3 (by decide), b8]
                rw [b9, s0, s1, s2, s3, b10]
                have hps : ps a m (ow_u R5 a 3 (nI v4)) (M_beginMarket m (nI v0) (nI v1) (nI v2) (nI v3) (nI v4) S5) := by
                  have k1 : ∀ j, ow_u R5 a 3 (nI v4) (a + 1) j = I2 (a + 1) j := fun j => by rw [rr_u (by omega), r3 _ (by omega), rr_u (by omega), r2 _ (by omega), rr_u (by omega), r1 _ (by omega)]
                  have k0 : ∀ j, (j ≠ 1 ∧ j ≠ 2 ∧ j ≠ 3) → ow_u R5 a 3 (nI v4) a j = I2 a j := fun j hj => by rw [u_one, if_neg (by omega), r3 _ (by omega), u_one, if_neg (by omega), r2 _ (by omega), u_one, if_neg (by omega), r1 _ (by omega)]
                  have k2 : ow_u R5 a 3 (nI v4) a 1 = nI v2 := by rw [u_one, if_neg (by decide), r3 _ (by omega), u_one, if_neg (by decide), r2 _ (by omega), ow_u_s]
                  have k3 : ow_u R5 a 3 (nI v4) a 2 = nI v3 := by rw [u_one, if_neg (by decide), r3 _ (by omega), ow_u_s]
                  have k4 : ow_u R5 a 3 (nI v4) a 3 = nI v4 := ow_u_s _ _ _ _
                  refine ps_0 ?_ (by rw [k1, d1.1]) (by rw [k1, d1.2]) k2 k3 k4 ⟨a3, a4⟩ ⟨a5, a6⟩ ⟨a7, a8⟩ ⟨a9, a10⟩ a11
                  obtain ⟨g1, g2, g3, g4, g5, g6, g7, g8, g9, g10, g11⟩ := E2
                  exact ⟨by rw [k1, g1], by rw [k0 4 (by decide), g2], by rw [k0 5 (by decide), g3], by rw [k0 6 (by decide), g4], by rw [k0 8 (by decide), g5], by rw [k0 10 (by decide), g6], by rw [k0 12 (by decide), g7], by rw [k0 13 (by decide), g8], by rw [k0 14 (by decide), g9], by rw [k0 15 (by decide), g10], by rw [k0 16 (by decide), g11]⟩
                have bt : tk (p + 1) m (ow_u R5 a 3 (nI v4)) (M_readToken m (M_beginMarket m (nI v0) (nI v1) (nI v2) (nI v3) (nI v4) S5)) := by
                  have q := tok_next (tk_row (I' := Ib) (J' := M_beginMarket m (nI v0) (nI v1) (nI v2) (nI v3) (nI v4) S5) ib2 rfl rfl (rr_begin (by omega)) (rr_begin (by omega)))
                  rw [← ib1] at q
                  exact tk_row q (rr_u (by omega)) (rr_u (by omega)) rfl rfl
                simp only [M_failsAtNext, lt_eq]
                rw [pm_eta, pm_eta]
                refine pr_m (semi_st bt) (fun A C _ _ h => ⟨h.1, ?_, ?_, ?_⟩)
                · rw [h.2.2.2.1 _ (by omega), rr_readToken (by omega)]
                  exact rl_I0 hps.1 hps.2.1 (fun b z1 z2 => h.2.1 b (by omega) (by omega))
                · rw [h.2.2.2.1 _ (by omega), rr_readToken (by omega)]
                  exact hps.2.1
                · rw [h.2.2.2.1 _ (by omega), rr_readToken (by omega)]
                  exact hps.2.2
              · rw [a1, a2, lt_p false R, lt_p true S]
                dsimp only
                rw [if_neg (show ¬ false = true by decide), if_pos (show true = true from rfl)]
                exact pr_f a3
            · rw [a1, a2, lt_p false R, lt_p true S]
              dsimp only
              rw [if_neg (show ¬ false = true by decide), if_pos (show true = true from rfl)]
              exact pr_f a3
          · rw [a1, a2, lt_p false R, lt_p true S]
            dsimp only
            rw [if_neg (show ¬ false = true by decide), if_pos (show true = true from rfl)]
            exact pr_f a3
        · rw [a1, a2, lt_p false R, lt_p true S]
          dsimp only
          rw [if_neg (show ¬ false = true by decide), if_pos (show true = true from rfl)]
          exact pr_f a3
      · rw [a1, a2, lt_p false R, lt_p true S]
        dsimp only
        rw [if_neg (show ¬ false = true by decide), if_pos (show true = true from rfl)]
        exact pr_f a3
    · have q0 : ¬ M_wordOf m J = 0 := fun z => c ((w2 0 (by decide)).mpr ((nI_z (by omega)).mp (w1.symm.trans z)).symm)
      obtain ⟨f1, f2, f3⟩ := fail_er (c := nI 1) ht
      rw [word_f c, if_neg q0, prod_eq f1, prod_eq f2, lt_p false, lt_p true]
      dsimp only
      rw [if_neg (show ¬ false = true by decide)]
      exact pr_f f3
  refine pr_m key (fun A C h1 h2 h => ⟨h.1, h.2, ?_⟩)
  have : C = (M_failsAtMarket m J).2 := by rw [h2]
  rw [this]
  exact RW_of hR (rr_mkt (by omega) (by omega) (by omega))
end SET
