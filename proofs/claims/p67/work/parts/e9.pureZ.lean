/-! THE MARKET BEGINS AS TOLD -/
section BEG
variable {w : Nat → Nat → Nat} {Z : Nat → Nat} {p a x q : Nat} {I J J3 : ow_I} {R : List Nat}
theorem em_be2 (I : ow_I) : em a (K_beginEmpty a I) := em_be
theorem rd_set (hw : w = pkf Z) (ha : a + 51 ≤ p ∨ p + 46 ≤ a) (hs : sfx (p + 1) I 0 (tB w (w 5 6))) : ∃ I', Q_readSetup p a I = (true, I') ∧ gb a I' (5 + w 0 30) (1 + w 1 (5 + w 0 30)) (1 + w 2 4) (w 3 51) (1 + w 4 4) (w 5 6) := by
  have p0 := pw hw 0 (n := 30) (by decide)
  have p1 := pw hw 1 (n := 5 + w 0 30) (by omega)
  have p2 := pw hw 2 (n := 4) (by decide)
  have p3 := pw hw 3 (n := 51) (by decide)
  have p4 := pw hw 4 (n := 4) (by decide)
  have p5 := pw hw 5 (n := 6) (by decide)
  have p6 := pw hw 6 (n := 30) (by decide)
  rw [tB_e] at hs
  have hb := hd_b (w := w) (w 5 6) 0
  have hy := hd_y (w := w) hb.1 (1 + w 4 4) 0
  obtain ⟨I0, h0⟩ : ∃ I0, I0 = ow_u (ow_u (ow_u I p 5 (nI 0)) p 6 (-1)) (p + 1) 4 (nI 0) := ⟨_, rfl⟩
  have s0 : sfx (p + 1) I0 0 (mT w (yR w 0 (1 + w 4 4) (bR w 0 (w 5 6) []))) := sfx_row hs (by rw [h0, ow_u_k _ _ _ _ (by decide), rr_u (by omega), rr_u (by omega)]) (by rw [h0, rr_u (by omega), rr_u (by omega), rr_u (by omega)])
  have h4 : I0 (p + 1) 4 = nI 0 := by rw [h0]; exact ow_u_s _ _ _ _
  have eB : Q_begin p I = U_advance (p + 1) I0 := by
    unfold Q_begin U_restart
    rw [lt_eq, lt_eq, lt_eq, lt_eq, lt_eq, h0]
  have s1 : sfx (p + 1) I0 (0 + 6) (32 :: (dl (5 + w 0 30) ++ 32 :: (dl (1 + w 1 (5 + w 0 30)) ++ 32 :: (dl (1 + w 2 4) ++ 32 :: (dl (1 + w 6 30) ++ 32 :: (dl (w 3 51) ++ 59 :: yR w 0 (1 + w 4 4) (bR w 0 (w 5 6) []))))))) := sfx_a (M := [109, 97, 114, 107, 101, 116]) s0
  have eA := adv_w (W := [97, 114, 107, 101, 116]) (c := 32) (d := 109) h4 s0 (by decide) (by decide +kernel) (by decide)
  have fA : ∀ b, b ≠ p + 1 → U_advance (p + 1) I0 b = I0 b := fun b hb => rr_adv hb
  have t1 : sfx (p + 1) (U_advance (p + 1) I0) (0 + 6) (32 :: (dl (5 + w 0 30) ++ 32 :: (dl (1 + w 1 (5 + w 0 30)) ++ 32 :: (dl (1 + w 2 4) ++ 32 :: (dl (1 + w 6 30) ++ 32 :: (dl (w 3 51) ++ 59 :: yR w 0 (1 + w 4 4) (bR w 0 (w 5 6) []))))))) := by rw [eA]; exact sfx_tk s1
  have t2 : sfx (p + 1) (U_advance (p + 1) I0) 0 (mT w (yR w 0 (1 + w 4 4) (bR w 0 (w 5 6) []))) := by rw [eA]; exact sfx_tk s0
  have k2 : U_advance (p + 1) I0 (p + 1) 2 = nI 1 := by rw [eA]; exact tk_2
  have k3 : U_advance (p + 1) I0 (p + 1) 3 = nI 0 := by rw [eA]; exact tk_3
  have k4 : U_advance (p + 1) I0 (p + 1) 4 = nI (0 + 6) := by rw [eA]; exact tk_4
  unfold Q_readSetup
  rw [lt_eq, lt_eq, eB]
  generalize U_advance (p + 1) I0 = I1 at t1 t2 k2 k3 k4 fA ⊢
  obtain ⟨I2, h2⟩ : ∃ I2, I2 = K_beginEmpty a I1 := ⟨_, rfl⟩
  have f2 : ∀ b, b < a ∨ a + 51 ≤ b → I2 b = I1 b := fun b hb => by rw [h2]; exact rr_emp hb
  have m2 : em a I2 := by rw [h2]; exact em_be2 I1
  rw [← h2]
  have fu := f2 (p + 1) (by omega)
  have fu1 := f2 (p + 1 + 1) (by omega)
  have t1' := sfx_r t1 fu fu1
  have t2' := sfx_r t2 fu fu1
  have w0 : U_isWord (p + 1) 0 I2 = true := iw_t (a := 0) (n := 6) rfl (by decide) (by decide) (by rw [fu]; exact k2) (by rw [fu]; exact k3) (by rw [fu]; exact k4) (fun j hj => by
    have hlen : 6 ≤ (mT w (yR w 0 (1 + w 4 4) (bR w 0 (w 5 6) []))).length := by
      show 6 ≤ (dl (5 + w 0 30) ++ _ : List Nat).length + 7
      omega
    rw [t2'.2.2 j (by omega)]
    match j, hj with
    | 0, _ => rfl
    | 1, _ => rfl
    | 2, _ => rfl
    | 3, _ => rfl
    | 4, _ => rfl
    | 5, _ => rfl)
  obtain ⟨I3, e3, g1, g2, g3, g4, g5, g6, g7, g8, g9, g10⟩ := rd_mkt ha hy w0 (by rw [fu]; exact k4) t1' ⟨by omega, by omega⟩ ⟨by omega, by omega⟩ ⟨by omega, by omega⟩ ⟨by omega, by omega⟩ (by omega)
  rw [g1, lt_p true]
  dsimp only
  rw [if_pos (show true = true from rfl)]
  have m3 : em a I3 := by
    obtain ⟨q1, q2, q3, q4, q5, q6, q7, q8, q9, q10, q11⟩ := m2
    exact ⟨(g8 2 (by decide)).trans q1, (g9 4 (by decide)).trans q2, (g9 5 (by decide)).trans q3, (g9 6 (by decide)).trans q4, (g9 8 (by decide)).trans q5, (g9 10 (by decide)).trans q6, (g9 12 (by decide)).trans q7, (g9 13 (by decide)).trans q8, (g9 14 (by decide)).trans q9, (g9 15 (by decide)).trans q10, (g9 16 (by decide)).trans q11⟩
  have hg := gs_0 m3 g3 g4 g5 g6 g7 ⟨by omega, by omega⟩ ⟨by omega, by omega⟩ ⟨by omega, by omega⟩ ⟨by omega, by omega⟩ (by omega)
  obtain ⟨I4, e4, J4, l1, l2, l3⟩ := rd_ys hw ha hb.1 hb.2 (n := w 4 4) (by omega) g2 hg
  rw [l1, lt_p true]
  dsimp only
  rw [if_pos (show true = true from rfl)]
  obtain ⟨I5, m1, m2', m3'⟩ := rd_bL hw ha (w 5 6) 22 0 e4 I4 (by omega) (by omega) l2 (gb_0 l3 (by omega))
  have eL : Q_readBarrels p a I4 = (true, I5) := by
    unfold Q_readBarrels
    exact m1
  rw [eL, lt_p true]
  dsimp only
  rw [if_pos (show true = true from rfl), if_pos (show I5 (p + 1) 2 = 0 by rw [m2']; rfl)]
  rw [Nat.zero_add] at m3'
  exact ⟨I5, rfl, m3'⟩
theorem au_eq (hX : au_V x I) (h : ∀ b, b < x + 666 → J b = I b) : au_V x J := by
  obtain ⟨h1, h2, h3, h4, h5, h6⟩ := hX
  refine ⟨kV_eq h1 (fun b _ _ => h b (by omega)), kV_eq h2 (fun b _ _ => h b (by omega)), fun i hi => kV_eq (h3 i hi) (fun b _ _ => h b (by omega)), fun i hi => kV_eq (h4 i hi) (fun b _ _ => h b (by omega)), by rw [h _ (by omega)]; exact h5, by rw [h _ (by omega)]; exact h6⟩
theorem bg_V (hw : w = pkf Z) (hX : au_V x I) (h : begJ x w I J) : au_V x J ∧ sfx (x + 515 + 1) J 0 (tB w (w 5 6)) := by
  have p5 := pw hw 5 (n := 6) (by decide)
  have hl : (tB w (w 5 6)).length ≤ 300 := by
    have := (tB_l hw (w 5 6)).1
    have : 31 * w 5 6 ≤ 31 * 5 := Nat.mul_le_mul_left _ (by omega)
    omega
  obtain ⟨b1, b2, b3, b4⟩ := h
  refine ⟨?_, by rw [b1, Nat.zero_add], by omega, fun i hi => by rw [Nat.zero_add]; exact b2 i hi⟩
  obtain ⟨h1, h2, h3, h4, h5, h6⟩ := hX
  have e : ∀ b, b < x + 516 ∨ (x + 518 ≤ b ∧ b < x + 666) → J b = I b := fun b hb => b4 b (by omega) (by omega) (by omega)
  refine ⟨kV_eq h1 (fun b _ _ => e b (by omega)), kV_eq h2 (fun b _ _ => e b (by omega)), fun i hi => kV_eq (h3 i hi) (fun b _ _ => e b (by omega)), fun i hi => kV_eq (h4 i hi) (fun b _ _ => e b (by omega)), by rw [e _ (by omega)]; exact h5, ?_⟩
  refine ⟨?_, by rw [b3 3 (by decide)]; exact h6.2.1, by rw [b3 4 (by decide)]; exact h6.2.2⟩
  rw [b1, tn_nI (by omega)]
  exact ⟨nI_ge0 (by omega), by omega⟩
/-- what loadSetup leaves -/
theorem ld_ok (hw : w = pkf Z) (hX : au_V x I) (h : begJ x w I J) : (Q_readSetup (x + 515) (x + 52) J).1 = true ∧ (A_loadSetup x J).1 = (A_loadSetup x J).2 (x + 1) 10 ∧ au_V x (A_loadSetup x J).2 ∧ gb (x + 1) (A_loadSetup x J).2 (5 + w 0 30) (1 + w 1 (5 + w 0 30)) (1 + w 2 4) (w 3 51) (1 + w 4 4) (w 5 6) := by
  obtain ⟨hXJ, hs⟩ := bg_V hw hX h
  obtain ⟨I1, g1, g2⟩ := rd_set (p := x + 515) (a := x + 52) hw (by omega) hs
  have hX2 := au_rs hXJ
  have e0 : A_loadSetup x J = (K_copyFrom (x + 1) (x + 52) (H_remember (x + 103) (x + 1) (ow_u (Q_readSetup (x + 515) (x + 52) J).2 (x + 515 + 1) 1 (nI 0))) (x + 1) 10, K_copyFrom (x + 1) (x + 52) (H_remember (x + 103) (x + 1) (ow_u (Q_readSetup (x + 515) (x + 52) J).2 (x + 515 + 1) 1 (nI 0)))) := by
    unfold A_loadSetup
    rw [lt_eq, lt_eq, lt_eq, lt_eq]
  rw [e0, g1]
  rw [g1] at hX2
  dsimp only at hX2 ⊢
  have hg2 : gb (x + 52) (ow_u I1 (x + 515 + 1) 1 (nI 0)) (5 + w 0 30) (1 + w 1 (5 + w 0 30)) (1 + w 2 4) (w 3 51) (1 + w 4 4) (w 5 6) := gb_row g2 (fun b _ _ => rr_u (by omega))
  generalize ow_u I1 (x + 515 + 1) 1 (nI 0) = I2 at hX2 hg2 ⊢
  have hX3 := au_rem hX2
  have hg3 : gb (x + 52) (H_remember (x + 103) (x + 1) I2) (5 + w 0 30) (1 + w 1 (5 + w 0 30)) (1 + w 2 4) (w 3 51) (1 + w 4 4) (w 5 6) := gb_row hg2 (fun b _ _ => rr_rem hX2 (by omega))
  generalize H_remember (x + 103) (x + 1) I2 = I3 at hX3 hg3 ⊢
  refine ⟨rfl, rfl, au_mk hX3 (fun b hb => rr_kcp (by omega) (by omega) hX3.2.1.1.2 hX3.2.1.2.1.2) (kV_cp hX3.2.1 hX3.1 (by omega)), ?_⟩
  obtain ⟨f, hr, hv, hf⟩ := hg3
  exact ⟨f, rl_cp hr hv (by omega), hv, hf⟩
theorem beg_q (hw : w = pkf Z) (hX : au_V x I) (h : begJ x w I J) : begQ x w J := by
  obtain ⟨h1, h2, h3, f, hr, hv, hi, hl, ⟨q0, q1, q2, q4, q5⟩, h6, h7, h12, h8⟩ := ld_ok hw hX h
  have p0 := pw hw 0 (n := 30) (by decide)
  have p1 := pw hw 1 (n := 5 + w 0 30) (by omega)
  have e7 : f 7 = nI (w 5 6) := by rw [← h7]; exact (nI_tn hv.2.2.1.1).symm
  have e6 : f 6 = nI (1 + w 4 4) := by rw [← h6]; exact (nI_tn hv.2.1.1).symm
  have e12 : f 12 = nI (w 5 6) := by rw [← h12]; exact (nI_tn hv.2.2.2.2.2.1.1).symm
  refine ⟨h1, h2.trans (hr.2.2.1.2.1.trans e7), hr.2.2.1.1.trans e6, hr.2.2.1.2.2.trans e12, hr.1.2.2.trans q5, hr.2.2.2.1.1.trans h8, ?_⟩
  show T_isLow (x + 1 + 1) (A_loadSetup x J).2 = true
  rw [low_eq (J := gm f) (m := 0) hr.1.1 hr.1.2.1 hr.1.2.2 hi]
  show M_isOpenIn 0 (f 5) (gm f) = true
  rw [q5]
  have := opn_N (m := 0) (J := gm f) (p := 5 + w 0 30) (l := 1 + w 1 (5 + w 0 30)) (n := 0) q0 q1 ⟨by omega, by omega⟩ (by omega) (by decide)
  rw [Nat.zero_mod, decide_eq_true (show 0 < 1 + w 1 (5 + w 0 30) by omega)] at this
  exact this
theorem beg_LI (hw : w = pkf Z) (hX : au_V x I) (h : begJ x w I J) (hq : x + 666 ≤ q) (e : ∀ a, a < q → J3 a = (A_loadSetup x J).2 a) (m0 : J3 q 0 = nI (5 + w 0 30)) (m1 : J3 q 1 = nI (1 + w 1 (5 + w 0 30))) (m2 : J3 q 2 = nI (1 + w 2 4)) (m3 : J3 q 3 = nI (w 3 51)) : LI 0 x q J3 := by
  obtain ⟨h1, h2, h3, f, hr, hv, hi, hl, ⟨q0, q1, q2, q4, q5⟩, h6, h7, h12, h8⟩ := ld_ok hw hX h
  refine li_of (au_eq h3 (fun b hb => e b (by omega))) (rl_I hr hv (fun b _ _ => e b (by omega)) (fun _ _ => rfl)) hv hi (lgf_mono hl (by omega)) ⟨by rw [m0, q0], by rw [m1, q1], by rw [m2, q2], by rw [m3, q4]⟩ hq (by decide) (fun z => ?_)
  rw [h8] at z
  exact absurd z i_m1
theorem pu_all (Z : Nat → Nat) : PU (pkf Z) := by
  refine ⟨fun x m B g I h hB hg => ?_, fun x m B b I h hB hb => foretold_true h hB hb, fun x I J hX h => beg_q rfl hX h, fun x q I J J3 hX h hq e m0 m1 m2 m3 => beg_LI rfl hX h hq e m0 m1 m2 m3⟩
  have := acted_true (w := pkf Z) (m := m) (g := g) rfl h hB
  exact ⟨q_act h hB, this.1, this.2⟩
end BEG
