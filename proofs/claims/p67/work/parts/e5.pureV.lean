/-! A SETUP READ, AND ITS GHOST (begun from rows of wip/whole: parts bq, br of the claim whole) -/
def ps (a m : Nat) (I J : ow_I) : Prop := rl a I (J (m + 1)) ∧ md_B (J (m + 1)) ∧ iv 0 (J (m + 1))
theorem rl_I0 {a : Nat} {I I' : ow_I} {f : Nat → Int32} (h : rl a I f) (hb : md_B f) (e : ∀ b, a ≤ b → b < a + 51 → I' b = I b) : rl a I' f := by
  have h6 := hb.2.1.2
  have h7 := hb.2.2.1.2
  obtain ⟨⟨t1, t2, t3⟩, ⟨s1, s2, s3, s4, s5, s6⟩, ⟨c1, c2, c3⟩, ⟨b1, b2, b3, b4⟩, hY, hQ, hB⟩ := h
  have ea := e a (by omega) (by omega)
  have e1 := e (a + 1) (by omega) (by omega)
  refine ⟨?_, ?_, ?_, ?_, fun i hi w hw => by rw [e _ (by omega) (by omega)]; exact hY i hi w hw, fun i hi => by rw [e _ (by omega) (by omega)]; exact hQ i hi, fun k hk => by rw [e _ (by omega) (by omega), e _ (by omega) (by omega)]; exact hB k hk⟩
  · rw [e1]; exact ⟨t1, t2, t3⟩
  · rw [ea]; exact ⟨s1, s2, s3, s4, s5, s6⟩
  · rw [ea]; exact ⟨c1, c2, c3⟩
  · rw [ea]; exact ⟨b1, b2, b3, b4⟩
section PSG
variable {p m a : Nat} {I J I' J' : ow_I}
def em (a : Nat) (I : ow_I) : Prop := I (a + 1) 2 = nI 0 ∧ I a 4 = nI 0 ∧ I a 5 = nI 0 ∧ I a 6 = nI 0 ∧ I a 8 = nI 0 ∧ I a 10 = nI 0 ∧ I a 12 = nI 0 ∧ I a 13 = -1 ∧ I a 14 = -1 ∧ I a 15 = -1 ∧ I a 16 = -1
theorem em_be : em a (K_beginEmpty a I) := by
  simp only [K_beginEmpty, K_endBidding, lt_eq]
  refine ⟨?_, ?_, ?_, ?_, ?_, ?_, ?_, ?_, ?_, ?_, ?_⟩ <;> simp (disch := omega) only [u_one, rr_u, if_neg, if_pos, if_true]
theorem be_rr {b : Nat} (h : b ≠ a) (h1 : b ≠ a + 1) : K_beginEmpty a I b = I b := by
  simp only [K_beginEmpty, K_endBidding, lt_eq]
  simp (disch := omega) only [rr_u]
theorem em_row (h : em a I) (e : I' a = I a) (e1 : I' (a + 1) 2 = I (a + 1) 2) : em a I' := by
  unfold em
  rw [e, e1]
  exact h
theorem ps_0 {v0 v1 v2 v3 v4 : Nat} {X : ow_I} (h : em a I) (e0 : I (a + 1) 0 = nI v0) (e1 : I (a + 1) 1 = nI v1) (e2 : I a 1 = nI v2) (e3 : I a 2 = nI v3) (e4 : I a 3 = nI v4) (h0 : 5 ≤ v0 ∧ v0 ≤ 60) (h1 : 1 ≤ v1 ∧ v1 ≤ v0) (h2 : 1 ≤ v2 ∧ v2 ≤ 9) (h3 : 1 ≤ v3 ∧ v3 ≤ 50) (h4 : v4 ≤ 50) :
    ps a m I (M_beginMarket m (nI v0) (nI v1) (nI v2) (nI v3) (nI v4) X) := by
  have c := fun k => @bm_cells m (nI v0) (nI v1) (nI v2) (nI v3) (nI v4) X k
  obtain ⟨B1, B2, B3⟩ := @B_bm m (nI v0) (nI v1) (nI v2) (nI v3) (nI v4) X (fun z => by
    have := (nI_z (by omega)).mp z
    omega)
  generalize M_beginMarket m (nI v0) (nI v1) (nI v2) (nI v3) (nI v4) X = Y at c B1 B2 B3 ⊢
  obtain ⟨g1, g2, g3, g4, g5, g6, g7, g8, g9, g10, g11⟩ := h
  have c0 := c 0; have c1 := c 1; have c2 := c 2; have c3 := c 3; have c4 := c 4; have c5 := c 5; have c6 := c 6; have c7 := c 7; have c8 := c 8; have c9 := c 9; have c10 := c 10; have c11 := c 11; have c12 := c 12; have c13 := c 13; have c14 := c 14; have c15 := c 15
  simp (disch := omega) only [if_neg, if_pos, if_true] at c0 c1 c2 c3 c4 c5 c6 c7 c8 c9 c10 c11 c12 c13 c14 c15
  have t6 : tn (Y (m + 1) 6) = 0 := by rw [c6]; rfl
  have t7 : tn (Y (m + 1) 7) = 0 := by rw [c7]; rfl
  have t12 : tn (Y (m + 1) 12) = 0 := by rw [c12]; rfl
  refine ⟨⟨⟨by rw [e0, c0], by rw [e1, c1], by rw [g1, c5]; rfl⟩, ⟨by rw [e2, c2], by rw [e3, c3], by rw [e4, c4], by rw [g2, c13]; rfl, by rw [g3, c14]; rfl, by rw [g4, c15]; rfl⟩, ⟨by rw [g5, c6]; rfl, by rw [g6, c7]; rfl, by rw [g7, c12]; rfl⟩, ⟨by rw [g8, c8], by rw [g10, c10], by rw [g9, c10, if_pos rfl], by rw [g11, c8, if_pos rfl]⟩, fun i hi => by omega, fun i hi => by omega, fun i hi => by omega⟩, B1, ⟨⟨v0, v1, c0, h0.1, h0.2, c1, h1.1, h1.2⟩, ⟨v2, c2, h2.1, h2.2⟩, ⟨v3, c3, h3.1, h3.2⟩, ⟨v4, c4, h4⟩, 0, by rw [c5]; rfl, Nat.le_refl _⟩, fun i hi => by omega, fun i hi => by omega, fun z => ?_, fun z => ?_, 0, by rw [c13]; rfl, Nat.zero_le _⟩
  · rw [c8] at z
    exact absurd z (by decide)
  · rw [c10] at z
    exact absurd z (by decide)
theorem ps_buyer {k v0 : Nat} {s f : Int32} (h : ps a m I J) (h6 : tn (J (m + 1) 6) = k) (hk : k < 6) (h7 : tn (J (m + 1) 7) = 0) (hv : v0 ≤ 9999) :
    ps a m (K_takeBuyer a (nI v0) s f I) (M_addBuyer m (nI v0) s f J) := by
  obtain ⟨hr, hB, hi⟩ := h
  have hB2 := hB
  obtain ⟨o1, o2, o3⟩ := @ab_6 m (nI v0) s f J hB.2.1.1 (by omega) |>.imp_right (fun z => (⟨z, trivial⟩ : _ ∧ True))
  have oo := fun k (hk : k < 6 ∨ (6 < k ∧ k < 15) ∨ (15 < k ∧ k < 36) ∨ 66 ≤ k) => @ab_o m k (nI v0) s f J (by omega) hk
  have h12 : tn (J (m + 1) 12) = 0 := by rw [hB.2.2.2.2.2.1, h7]
  have hBn : md_B (M_addBuyer m (nI v0) s f J (m + 1)) := B_of hB ⟨o1, by omega⟩ (fun k hk => oo k (by omega))
  have e6 : J (m + 1) 6 = nI k := by rw [← nI_tn hB.2.1.1, h6]
  obtain ⟨⟨t1, t2, t3⟩, ⟨s1, s2, s3, s4, s5, s6⟩, ⟨c1, c2, c3⟩, ⟨b1, b2, b3, b4⟩, hY, hQ, hBB⟩ := hr
  have t8 : tn (I a 8) = k := by rw [c1, h6]
  have n7 : tn (M_addBuyer m (nI v0) s f J (m + 1) 7) = 0 := by rw [oo 7 (by omega), h7]
  have n12 : tn (M_addBuyer m (nI v0) s f J (m + 1) 12) = 0 := by rw [oo 12 (by omega), h12]
  have nb : ∀ i w, i < k → w < 5 → M_addBuyer m (nI v0) s f J (m + 1) (36 + 5 * i + w) = J (m + 1) (36 + 5 * i + w) := fun i w hi hw => by
    simp only [M_addBuyer, M_put, lt_eq, h6]
    simp (disch := omega) only [u_one, if_neg]
  have nn : ∀ w, w < 5 → M_addBuyer m (nI v0) s f J (m + 1) (36 + 5 * k + w) = (if w = 0 then nI v0 else if w = 1 then s else if w = 2 then f else nI 0) := fun w hw => by
    simp only [M_addBuyer, M_put, lt_eq, h6]
    have : w = 0 ∨ w = 1 ∨ w = 2 ∨ w = 3 ∨ w = 4 := by omega
    rcases this with rfl | rfl | rfl | rfl | rfl <;> simp (disch := omega) only [u_one, if_neg, if_pos, if_true]
  have n15 : M_addBuyer m (nI v0) s f J (m + 1) 15 = J (m + 1) 15 + nI v0 := by
    simp only [M_addBuyer, M_put, lt_eq, h6]
    simp (disch := omega) only [u_one, if_neg, if_pos, if_true]
  have n6 : M_addBuyer m (nI v0) s f J (m + 1) 6 = J (m + 1) 6 + nI 1 := by
    simp only [M_addBuyer, M_put, lt_eq, h6]
    simp (disch := omega) only [u_one, if_neg, if_pos, if_true]
  have n8 : M_addBuyer m (nI v0) s f J (m + 1) 8 = -1 := by rw [oo 8 (by omega)]; exact hB.2.2.2.1
  have n10 : M_addBuyer m (nI v0) s f J (m + 1) 10 = -1 := by rw [oo 10 (by omega)]; exact hB.2.2.2.2.1
  unfold ps
  generalize M_addBuyer m (nI v0) s f J (m + 1) = g at oo hBn n7 n12 nb nn n15 n6 n8 n10 o2
  refine ⟨?_, hBn, iH_c hi.1 (fun j hj => oo j (by omega)), fun i hi2 => ?_, fun i hi2 => by omega, fun z => ?_, fun z => ?_, ?_⟩
  · simp only [K_takeBuyer, Y_begin, lt_eq, t8]
    rw [if_neg (by omega)]
    refine ⟨⟨?_, ?_, ?_⟩, ⟨?_, ?_, ?_, ?_, ?_, ?_⟩, ⟨?_, ?_, ?_⟩, ⟨?_, ?_, ?_, ?_⟩, fun i hi2 w hw => ?_, fun i hi2 => by omega, fun i hi2 => by omega⟩
    all_goals (simp (disch := omega) only [u_one, rr_u, if_neg, if_pos, if_true])
    · rw [t1, oo 0 (by omega)]
    · rw [t2, oo 1 (by omega)]
    · rw [t3, oo 5 (by omega)]
    · rw [s1, oo 2 (by omega)]
    · rw [s2, oo 3 (by omega)]
    · rw [s3, oo 4 (by omega)]
    · rw [s4, oo 13 (by omega)]
    · rw [s5, oo 14 (by omega)]
    · rw [s6, n15]
    · rw [c1, n6]
    · rw [c2, oo 7 (by omega)]
    · rw [c3, oo 12 (by omega)]
    · rw [b1, oo 8 (by omega)]
    · rw [b2, oo 10 (by omega)]
    · rw [b3, if_pos hB2.2.2.2.2.1]
    · rw [b4, if_pos hB2.2.2.2.1]
    · by_cases d : i = k
      · rw [d, nn w hw]
        have : w = 0 ∨ w = 1 ∨ w = 2 ∨ w = 3 ∨ w = 4 := by omega
        rcases this with rfl | rfl | rfl | rfl | rfl <;> simp (disch := omega) only [u_one, rr_u, if_neg, if_pos, if_true]
      · rw [nb i w (by omega) hw]
        simp (disch := omega) only [rr_u]
        exact hY i (by omega) w hw
  · by_cases d : i = k
    · rw [d]
      have := nn 0 (by omega)
      rw [if_pos rfl, Nat.add_zero] at this
      exact ⟨v0, this, by omega⟩
    · have := nb i 0 (by omega) (by omega)
      rw [Nat.add_zero] at this
      rw [this]
      exact hi.2.1 i (by omega)
  · rw [n8] at z
    exact absurd z (by decide)
  · rw [n10] at z
    exact absurd z (by decide)
  · obtain ⟨c, e, hc⟩ := hi.2.2.2.2.2
    rw [h7] at hc
    refine ⟨c, by rw [oo 13 (by omega)]; exact e, ?_⟩
    have : c = 0 := by
      have : sdN (J (m + 1)) 0 = 0 := rfl
      rw [this] at hc
      omega
    rw [this]
    exact Nat.zero_le _
end PSG
/-- the ghost while buyers are read -/
def gs (a : Nat) (I J : ow_I) (v0 v1 v2 v4 k : Nat) : Prop := ps a 0 I J ∧ tn (J (0 + 1) 6) = k ∧ tn (J (0 + 1) 7) = 0 ∧ lgf 1000 (J (0 + 1)) ∧ J (0 + 1) 0 = nI v0 ∧ J (0 + 1) 1 = nI v1 ∧ J (0 + 1) 2 = nI v2 ∧ J (0 + 1) 4 = nI v4 ∧ J (0 + 1) 5 = 0
section GSS
variable {a k v0 v1 v2 v3 v4 : Nat} {I J I' : ow_I}
theorem gs_0 (h : em a I) (e0 : I (a + 1) 0 = nI v0) (e1 : I (a + 1) 1 = nI v1) (e2 : I a 1 = nI v2) (e3 : I a 2 = nI v3) (e4 : I a 3 = nI v4) (h0 : 5 ≤ v0 ∧ v0 ≤ 60) (h1 : 1 ≤ v1 ∧ v1 ≤ v0) (h2 : 1 ≤ v2 ∧ v2 ≤ 9) (h3 : 1 ≤ v3 ∧ v3 ≤ 50) (h4 : v4 ≤ 50) : gs a I (M_beginMarket 0 (nI v0) (nI v1) (nI v2) (nI v3) (nI v4) I) v0 v1 v2 v4 0 := by
  have hp := ps_0 (m := 0) (X := I) h e0 e1 e2 e3 e4 h0 h1 h2 h3 h4
  have c := fun k => @bm_cells 0 (nI v0) (nI v1) (nI v2) (nI v3) (nI v4) I k
  unfold gs
  generalize M_beginMarket 0 (nI v0) (nI v1) (nI v2) (nI v3) (nI v4) I = Y at hp c ⊢
  have c0 := c 0; have c1 := c 1; have c2 := c 2; have c4 := c 4; have c5 := c 5; have c6 := c 6; have c7 := c 7; have c13 := c 13; have c14 := c 14; have c15 := c 15
  simp (disch := omega) only [if_neg, if_pos, if_true] at c0 c1 c2 c4 c5 c6 c7 c13 c14 c15
  have t6 : tn (Y (0 + 1) 6) = 0 := by rw [c6]; rfl
  have t7 : tn (Y (0 + 1) 7) = 0 := by rw [c7]; rfl
  refine ⟨hp, t6, t7, ?_, c0, c1, c2, c4, c5⟩
  unfold lgf
  rw [t6, t7, c13, c14, c15]
  exact ⟨fun b hb => absurd hb (by omega), fun b hb => absurd hb (by omega), fun y hy => absurd hy (by omega), rfl, by show (0 : Int32) - 0 - 0 - 0 = 0; decide, fun b hb => absurd hb (by omega), fun y hy => absurd hy (by omega)⟩
theorem gs_buyer {c : Nat} {s f : Int32} (h : gs a I J v0 v1 v2 v4 k) (hk : k < 6) (hc : c ≤ 1000) : gs a (K_takeBuyer a (nI c) s f I) (M_addBuyer 0 (nI c) s f J) v0 v1 v2 v4 (k + 1) := by
  obtain ⟨hp, h6, h7, hl, q0, q1, q2, q4, q5⟩ := h
  have hp2 := ps_buyer (m := 0) (v0 := c) (s := s) (f := f) hp h6 hk h7 (by omega)
  have hB := hp.2.1
  have o12 := @ab_6 0 (nI c) s f J hB.2.1.1 (by omega)
  have oo := fun k (hk : k < 6 ∨ (6 < k ∧ k < 15) ∨ (15 < k ∧ k < 36) ∨ 66 ≤ k) => @ab_o 0 k (nI c) s f J (by omega) hk
  have nb : ∀ i w, i < k → w < 5 → M_addBuyer 0 (nI c) s f J (0 + 1) (36 + 5 * i + w) = J (0 + 1) (36 + 5 * i + w) := fun i w hi hw => by
    simp only [M_addBuyer, M_put, lt_eq, h6]
    simp (disch := omega) only [u_one, if_neg]
  have n0 : M_addBuyer 0 (nI c) s f J (0 + 1) (36 + 5 * k) = nI c := by
    simp only [M_addBuyer, M_put, lt_eq, h6]
    simp (disch := omega) only [u_one, if_neg, if_pos, if_true, Nat.add_zero]
  have n3 : M_addBuyer 0 (nI c) s f J (0 + 1) (36 + 5 * k + 3) = nI 0 := by
    simp only [M_addBuyer, M_put, lt_eq, h6]
    simp (disch := omega) only [u_one, if_neg, if_pos, if_true]
  have n15 : M_addBuyer 0 (nI c) s f J (0 + 1) 15 = J (0 + 1) 15 + nI c := by
    simp only [M_addBuyer, M_put, lt_eq, h6]
    simp (disch := omega) only [u_one, if_neg, if_pos, if_true]
  unfold gs
  generalize M_addBuyer 0 (nI c) s f J = Y at hp2 o12 oo nb n0 n3 n15 ⊢
  have t6 : tn (Y (0 + 1) 6) = k + 1 := by rw [o12.2, h6]
  have t7 : tn (Y (0 + 1) 7) = 0 := by rw [oo 7 (by omega), h7]
  refine ⟨hp2, t6, t7, ?_, by rw [oo 0 (by omega)]; exact q0, by rw [oo 1 (by omega)]; exact q1, by rw [oo 2 (by omega)]; exact q2, by rw [oo 4 (by omega)]; exact q4, by rw [oo 5 (by omega)]; exact q5⟩
  obtain ⟨g1, g2, g3, g4, g5, g6, g7⟩ := hl
  rw [h7] at g3 g4
  rw [h6] at g3 g5 g7
  unfold lgf
  rw [t6, t7, oo 13 (by omega), oo 14 (by omega), n15]
  refine ⟨fun b hb => absurd hb (by omega), fun b hb => absurd hb (by omega), fun y hy => ?_, g4, ?_, fun b hb => absurd hb (by omega), fun y hy => ?_⟩
  · by_cases e : y = k
    · subst e; exact n3
    · rw [nb y 3 (by omega) (by omega)]
      exact g3 y (by omega)
  · show _ - (zS (Y (0 + 1)) k + Y (0 + 1) (36 + 5 * k)) - _ - _ = 0
    rw [n0, zS_c (f := J (0 + 1)) k (fun i hi => nb i 0 hi (by omega))]
    exact (rg_2 _ _ _ _ _).trans g5
  · by_cases e : y = k
    · subst e; exact ⟨c, n0, hc⟩
    · have : Y (0 + 1) (36 + 5 * y) = J (0 + 1) (36 + 5 * y) := nb y 0 (by omega) (by omega)
      rw [this]
      exact g7 y (by omega)
theorem gs_row (h : gs a I J v0 v1 v2 v4 k) (e : ∀ b, a ≤ b → b < a + 51 → I' b = I b) : gs a I' J v0 v1 v2 v4 k := ⟨⟨rl_I0 h.1.1 h.1.2.1 e, h.1.2⟩, h.2⟩
end GSS
/-- the ghost while barrels are read -/
def gb (a : Nat) (I : ow_I) (v0 v1 v2 v4 k j : Nat) : Prop := ∃ f : Nat → Int32, rl a I f ∧ md_V f ∧ iv 0 f ∧ lgf 1000 f ∧ (f 0 = nI v0 ∧ f 1 = nI v1 ∧ f 2 = nI v2 ∧ f 4 = nI v4 ∧ f 5 = 0) ∧ tn (f 6) = k ∧ tn (f 7) = j ∧ tn (f 12) = j ∧ f 8 = -1
section GBB
variable {a k j v0 v1 v2 v4 : Nat} {I J I' : ow_I}
theorem gb_0 (h : gs a I J v0 v1 v2 v4 k) (hk : 1 ≤ k) : gb a I v0 v1 v2 v4 k 0 := by
  obtain ⟨hp, h6, h7, hl, q0, q1, q2, q4, q5⟩ := h
  exact ⟨J (0 + 1), hp.1, B_V hp.2.1 (by rw [h6]; exact hk), hp.2.2, hl, ⟨q0, q1, q2, q4, q5⟩, h6, h7, by rw [hp.2.1.2.2.2.2.2.1]; exact h7, hp.2.1.2.2.2.1⟩
theorem gb_row (h : gb a I v0 v1 v2 v4 k j) (e : ∀ b, a ≤ b → b < a + 51 → I' b = I b) : gb a I' v0 v1 v2 v4 k j := by
  obtain ⟨f, hr, hv, h⟩ := h
  exact ⟨f, rl_I hr hv e (fun _ _ => rfl), hv, h⟩
theorem gb_take {r e fs : Nat} (h : gb a I v0 v1 v2 v4 k j) (hj : j < 20) (hr1 : 1 ≤ r ∧ r ≤ 999) (he : 1 ≤ e ∧ e ≤ 9) (hfs : fs < a ∨ a + 51 ≤ fs) (hl1 : ∀ i, i < e → ∃ l : Nat, I fs i = nI l ∧ 10 ≤ l ∧ l ≤ 150) : gb a (K_takeBarrel a (nI r) fs 0 e I).2 v0 v1 v2 v4 k (j + 1) := by
  obtain ⟨f, hr, hv, hi, hl, ⟨q0, q1, q2, q4, q5⟩, h6, h7, h12, h8⟩ := h
  have f7 : f 7 = nI j := by rw [← h7]; exact (nI_tn hv.2.2.1.1).symm
  have f12 : f 12 = nI j := by rw [← h12]; exact (nI_tn hv.2.2.2.2.2.1.1).symm
  obtain ⟨ht, -⟩ := rl_take (a := a) (m := 0) (I := I) (J := gm f) (r := nI r) (f := fs) (s := 0) (e := e) hr hv (show tn (f 7) < 20 by omega) (by rcases hfs with z | z; exact Or.inl z; exact Or.inr (Or.inl z)) (by omega) he.2 (fun i => I fs i) (fun i hi => by rw [Nat.zero_add])
  have hv2 := V_nb (m := 0) (cnt := e - 0) (r := nI r) (src := fun i => I fs i) (I := gm f) hv (show tn (f 7) < 20 by omega) (by omega) (by omega)
  have hi2 := iv_take (m := 0) (B := 0) (J := gm f) (r := nI r) (src := fun i => I fs i) (cnt := e - 0) hv hi (show tn (f 7) < 20 by omega) (by omega) (by omega) ⟨r, rfl, hr1.1, by omega⟩ (fun i hi => hl1 i (by omega))
  have ce := ce_new (m := 0) (J := gm f) (r := nI r) (show tn (f 12) < 20 by omega) (show tn (f 7) < 20 by omega)
  rw [show tn (gm f (0 + 1) 7) = j from h7] at ht hv2 hi2 ce
  rw [show tn (gm f (0 + 1) 12) = j from h12] at ce
  have cg : ∀ i, md_fill ((M_newBarrel 0 (nI r) (gm f)).2 (0 + 1)) j 0 (fun i => I fs i) (e - 0) i = if i = 66 + 15 * j then nI (0 + (e - 0)) else if 67 + 15 * j + 0 ≤ i ∧ i < 67 + 15 * j + 0 + (e - 0) then I fs (i - (67 + 15 * j + 0)) else (M_newBarrel 0 (nI r) (gm f)).2 (0 + 1) i := fun _ => rfl
  change ∀ i, (M_newBarrel 0 (nI r) (gm f)).2 (0 + 1) i = if i = 12 then f 12 + nI 1 else if i = 16 + j then nI j else if i = 66 + 15 * j + 12 then nI 0 else if i = 7 then f 7 + nI 1 else if i = 66 + 15 * j + 14 then -1 else if i = 66 + 15 * j + 13 then -1 else if i = 66 + 15 * j + 11 then nI 0 else if i = 66 + 15 * j + 10 then nI r else if i = 66 + 15 * j + 0 then nI 0 else f i at ce
  generalize md_fill ((M_newBarrel 0 (nI r) (gm f)).2 (0 + 1)) j 0 (fun i => I fs i) (e - 0) = g at *
  have s0 : ∀ i, i < 7 ∨ (7 < i ∧ i < 12) ∨ (12 < i ∧ i < 16) ∨ (36 ≤ i ∧ i < 66) → g i = f i := fun i hi => by rw [cg]; simp (disch := omega) only [if_neg, ce]
  have s7 : g 7 = nI (j + 1) := by
    rw [cg]; simp (disch := omega) only [if_neg, ce, if_pos, if_true]
    rw [f7, nI_add]
  have s12 : g 12 = nI (j + 1) := by
    rw [cg]; simp (disch := omega) only [if_neg, ce, if_pos, if_true]
    rw [f12, nI_add]
  have bn : ∀ i, i < 20 → i ≠ j → ∀ w, w < 15 → g (66 + 15 * i + w) = f (66 + 15 * i + w) := fun i hi hne w hw => by rw [cg]; simp (disch := omega) only [if_neg, ce]
  have b11 : g (66 + 15 * j + 11) = nI 0 := by rw [cg]; simp (disch := omega) only [if_neg, ce, if_pos, if_true]
  have b12 : g (66 + 15 * j + 12) = nI 0 := by rw [cg]; simp (disch := omega) only [if_neg, ce, if_pos, if_true]
  have b13 : g (66 + 15 * j + 13) = -1 := by rw [cg]; simp (disch := omega) only [if_neg, ce, if_pos, if_true]
  have b14 : g (66 + 15 * j + 14) = -1 := by rw [cg]; simp (disch := omega) only [if_neg, ce, if_pos, if_true]
  have hlg := lk_new (k := j) hv hl h7.symm hj (fun i hi => s0 i (by omega)) s7 (fun i hi hne w _ h2 => bn i hi hne w h2) b11 b12 b13 b14
  exact ⟨g, ht, hv2, hi2, hlg, ⟨by rw [s0 0 (by omega)]; exact q0, by rw [s0 1 (by omega)]; exact q1, by rw [s0 2 (by omega)]; exact q2, by rw [s0 4 (by omega)]; exact q4, by rw [s0 5 (by omega)]; exact q5⟩, by rw [s0 6 (by omega)]; exact h6, by rw [s7, tn_nI (by omega)], by rw [s12, tn_nI (by omega)], by rw [s0 8 (by omega)]; exact h8⟩
end GBB
