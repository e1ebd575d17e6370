/-! a barrel added; states taken back, saved, restored -/
section RRF
variable {x m B B' : Nat} {I I' J J' : ow_I}
theorem fill_at {a : Nat} {v : Int32} {I : ow_I} {j : Nat} (hj : j < 9) : j7_fill_53178 a v I a j = v := by
  have L : ∀ (n i : Nat) (Y : ow_I), i ≤ 9 → 9 - i < n → (∀ j, j < i → Y a j = v) → ∀ j, j < 9 → j7_fill_53178_L5 a v n Y i a j = v := by
    intro n
    induction n with
    | zero => intro i Y _ h; omega
    | succ n ih =>
      intro i Y hi hn h j hj
      unfold j7_fill_53178_L5
      by_cases c : 9 ≤ i
      · rw [if_pos c]
        exact h j (by omega)
      · rw [if_neg c, lt_eq]
        refine ih (i + 1) _ (by omega) (by omega) (fun q hq => ?_) j hj
        rw [u_one]
        by_cases d : q = i
        · rw [if_pos d]
        · rw [if_neg d]
          exact h q (by omega)
  exact L 10 0 I (by omega) (by omega) (fun j hj => by omega) j hj
theorem ab_loop {r e l : Int32} {p N : Nat} (hp : p < 20) (hN : tn e = N) : ∀ (n i c : Nat) (Y : ow_I), i ≤ N → N - i < n → Y (m + 1) (66 + 15 * p) = nI c → c + (N - i) ≤ 9 → (M_addBarrel_L95 m r e l n Y p i).1 = p ∧ (∀ b, b ≠ m + 1 → (M_addBarrel_L95 m r e l n Y p i).2 b = Y b) ∧ (M_addBarrel_L95 m r e l n Y p i).2 (m + 1) = md_fill (Y (m + 1)) p c (fun _ => l) (N - i) := by
  intro n
  induction n with
  | zero => intro i c Y _ h; omega
  | succ n ih =>
    intro i c Y hi hn hc h9
    unfold M_addBarrel_L95
    rw [hN]
    by_cases d : N ≤ i
    · rw [if_pos d]
      refine ⟨rfl, fun _ _ => rfl, ?_⟩
      rw [show N - i = 0 by omega, fill_0 hc]
    · rw [if_neg d, lt_eq]
      have q1 : tn (M_ofBarrel m p 0 Y) = c := by show tn (Y (m + 1) (66 + 15 * p)) = c; rw [hc, tn_nI (by omega)]
      have g1 : M_addEel m p l Y (m + 1) (66 + 15 * p) = nI (c + 1) := by
        simp (disch := omega) only [M_addEel, M_putBarrel, lt_eq, u_one, if_neg, if_pos, if_true, q1]
      obtain ⟨k1, k2, k3⟩ := ih (i + 1) (c + 1) (M_addEel m p l Y) (by omega) (by omega) g1 (by omega)
      refine ⟨k1, fun b hb => by rw [k2 b hb, rr_addEel hb], ?_⟩
      rw [k3]
      have q3 := @fill_s m p c (N - (i + 1)) (fun _ => l) Y hc (by omega)
      rw [show N - (i + 1) + 1 = N - i by omega] at q3
      exact q3
theorem r_addBarrel {r e l : Int32} (h : RR x m B I J) : an x m B [1, 2] (A_addBarrel x r e l I).1 (A_addBarrel x r e l I).2.1 (nI (M_addBarrel m r e l J).1) (A_addBarrel x r e l I).2.2 (M_addBarrel m r e l J).2 := by
  have h1 := RR_18 (y := nI 0) h
  have z18 : ow_u J m 18 (nI 0) m 18 = nI 0 := ow_u_s _ _ _ _
  simp only [A_addBarrel, M_addBarrel, lt_eq]
  generalize ow_u J m 18 (nI 0) = J1 at h1 z18 ⊢
  rcases rng_or (v := r) (lo := nI 1) (hi := nI 999) (I := I) (J := J1) with ⟨p1, p2, p3, p4⟩ | ⟨p1, p2⟩
  · simp only [p1, p2, if_true]
    have r0 : 0 ≤ r := by
      rw [Int32.le_iff_toInt_le] at p3 ⊢
      exact Int.le_trans (by decide) p3
    rcases rng_or (v := e) (lo := nI 1) (hi := nI 9) (I := I) (J := J1) with ⟨s1, s2, s3, s4⟩ | ⟨s1, s2⟩
    · simp only [s1, s2, if_true]
      have e0 : 0 ≤ e := by
        rw [Int32.le_iff_toInt_le] at s3 ⊢
        exact Int.le_trans (by decide) s3
      rcases rng_or (v := l) (lo := nI 10) (hi := nI 150) (I := I) (J := J1) with ⟨t1, t2, t3, t4⟩ | ⟨t1, t2⟩
      · simp only [t1, t2, if_true]
        have l0 : 0 ≤ l := by
          rw [Int32.le_iff_toInt_le] at t3 ⊢
          exact Int.le_trans (by decide) t3
        obtain ⟨rn, hrn, rfl⟩ := nI_ex r0 (tn_lt r)
        obtain ⟨en, hen, rfl⟩ := nI_ex e0 (tn_lt e)
        obtain ⟨ln, hln, rfl⟩ := nI_ex l0 (tn_lt l)
        have r1 := (nI_leI (by decide) hrn).mp p3
        have r2 := (nI_leI hrn (by decide)).mp p4
        have e1 := (nI_leI (by decide) hen).mp s3
        have e2 := (nI_leI hen (by decide)).mp s4
        have l1 := (nI_leI (by decide) hln).mp t3
        have l2 := (nI_leI hln (by decide)).mp t4
        have h7 := h1.2.1.2.1.2.2.1
        by_cases c : J1 (m + 1) 7 = nI 20
        · have hr : K_hasRoom (x + 1) I = false := by
            unfold K_hasRoom
            rw [h1.2.1.1.2.2.1.2.1, if_pos (by rw [c]; exact Int32.le_refl _)]
          rw [if_pos c, hr, rs_f, if_neg (show ¬ (2 : Nat) = 0 by decide)]
          exact ⟨RR_18 h1, ow_u_s _ _ _ _, fun z => ns0 z⟩
        · have h20 : tn (J1 (m + 1) 7) < 20 := by
            have := tn_ne h7.1 c
            omega
          have hr : K_hasRoom (x + 1) I = true := (room_eq h1.2.1.1).mpr (fun z => by
            rw [← nI_tn h7.1] at z
            have := (nI_leI (by decide) (by omega)).mp z
            omega)
          rw [if_neg c, hr, if_pos rs_t]
          have h2 := RR_rem h1
          have k0 : ∀ j, j < 370 → M_keep m 0 J1 (m + 1) j = J1 (m + 1) j := fun j hj => keepC h1 hj
          have hs2 := h2.2.1
          have h72 : tn (M_keep m 0 J1 (m + 1) 7) < 20 := by rw [k0 7 (by omega)]; exact h20
          have k18 := (keep18 h1).trans z18
          generalize M_keep m 0 J1 = J2 at h2 hs2 h72 k18 ⊢
          generalize H_remember (x + 103) (x + 1) I = I1 at h2 hs2 ⊢
          have hn12 : tn (J2 (m + 1) 12) < 20 := by
            have hq7 := hs2.2.1
            rw [md_V_eq] at hq7
            have := VV_qle hq7
            omega
          have hrl : rl (x + 1) (j7_fill_53178 (x + 561) (nI ln) I1) (J2 (m + 1)) := rl_I hs2.1 hs2.2.1 (fun b g1 g2 => rr_fill (by omega)) (fun _ _ => rfl)
          rw [tn_nI hen]
          obtain ⟨u1, u2⟩ := @rl_take (x + 1) m (j7_fill_53178 (x + 561) (nI ln) I1) J2 (nI rn) (x + 561) 0 en hrl hs2.2.1 h72 (Or.inr (Or.inl (by omega))) (by omega) e2 (fun _ => nI ln) (fun j hj => (fill_at (by omega)).symm)
          rw [Nat.sub_zero] at u1
          obtain ⟨a1, a2, a3⟩ := @ab_loop m (nI rn) (nI en) (nI ln) (tn (J2 (m + 1) 7)) en h72 (tn_nI hen) 10 0 0 (M_newBarrel m (nI rn) J2).2 (by omega) (by omega) (rdNB0 hn12) (by omega)
          rw [Nat.sub_zero] at a3
          have hkV : k_V (x + 1) (j7_fill_53178 (x + 561) (nI ln) I1) := kV_eq h2.1.1.1 (fun b g1 g2 => rr_fill (by omega))
          rw [rdNB1]
          have hV := V_nb (m := m) (I := J2) (r := nI rn) (src := fun _ => nI ln) (cnt := en) hs2.2.1 h72 e1 e2
          have hI := iv_take (m := m) (J := J2) (r := nI rn) (src := fun _ => nI ln) (cnt := en) hs2.2.1 hs2.2.2 h72 e1 e2 ⟨rn, rfl, r1, r2⟩ (fun j hj => ⟨ln, rfl, l1, l2⟩)
          refine ⟨RR_act h2 (Nat.le_refl _) ⟨by rw [a3]; exact u1, by rw [a3]; exact hV, by rw [a3]; exact hI⟩ (kV_tbar hkV) (fun q hq hq2 => ?_) (fun q hq => by rw [a2 q hq, rr_newBarrel hq]) (fun j hj => ?_), ?_, fun _ => ?_⟩
          · rw [rr_tbar (by omega) hkV.2.1.1]
            exact rr_fill (fun z => hq2 z)
          · rw [a3, fill_o (by omega), nb_c (nI rn) hn12 h72 j (by omega)]
          · rw [a2 m (by omega), rr_newBarrel (by omega), k18]
            rfl
          · dsimp only
            rw [a1]
            exact u2
      · simp only [t1, t2]
        rw [if_neg (show ¬ (1 : Nat) = 0 by decide), if_neg (show ¬ false = true by decide)]
        exact ⟨RR_18 h1, ow_u_s _ _ _ _, fun z => ns0 z⟩
    · simp only [s1, s2]
      rw [if_neg (show ¬ (1 : Nat) = 0 by decide), if_neg (show ¬ false = true by decide)]
      exact ⟨RR_18 h1, ow_u_s _ _ _ _, fun z => ns0 z⟩
  · simp only [p1, p2]
    rw [if_neg (show ¬ (1 : Nat) = 0 by decide), if_neg (show ¬ false = true by decide)]
    exact ⟨RR_18 h1, ow_u_s _ _ _ _, fun z => ns0 z⟩
theorem tk_eq {h a : Nat} {I : ow_I} (c : ¬ I h 2 ≤ 0) : H_takeBack h a I = K_copyFrom a (h + 2 + 51 * ((tn (I h 1) + 8 - 1) % 8)) (ow_u (ow_u I h 1 (nI ((tn (I h 1) + 8 - 1) % 8))) h 2 (ow_u I h 1 (nI ((tn (I h 1) + 8 - 1) % 8)) h 2 - nI 1)) := by
  unfold H_takeBack
  rw [if_neg c, lt_eq, lt_eq, lt_eq]
theorem r_undo (h : RR x m B I J) : an x m B [4] (A_undo x I).1 (A_undo x I).2.1 (M_undo m J).1 (A_undo x I).2.2 (M_undo m J).2 := by
  have h1 := RR_18 (y := nI 0) h
  have z18 : ow_u J m 18 (nI 0) m 18 = nI 0 := ow_u_s _ _ _ _
  have e1 : J m 1 = ow_u J m 18 (nI 0) m 1 := by rw [u_one, if_neg (by decide)]
  have e2 : J m 2 = ow_u J m 18 (nI 0) m 2 := by rw [u_one, if_neg (by decide)]
  simp only [A_undo, M_undo, lt_eq]
  rw [e1, e2]
  generalize ow_u J m 18 (nI 0) = J1 at h1 z18 ⊢
  obtain ⟨⟨a1, a2⟩, a3, ⟨o, k, g1, g2, g3, g4, g5, g6, g7⟩, a5, a6, a7, a8⟩ := id h1
  have tk : tn (J1 m 2) = k := by rw [g3, tn_nI (by omega)]
  have to : tn (J1 m 1) = o := by rw [g1, tn_nI (by omega)]
  rw [tk, to, g5]
  by_cases c : k = 0
  · rw [if_pos c, if_pos (by rw [c]; rfl)]
    exact ⟨RR_18 h1, ow_u_s _ _ _ _, fun z => ns0 z⟩
  · rw [if_neg c, if_neg (fun z => c ((nI_z (by omega)).mp z))]
    have hn8 : (o + k) % 8 < 8 := Nat.mod_lt _ (by decide)
    have hnx : tn (I (x + 103) 1) = (o + k) % 8 := by rw [g6, tn_nI (by omega)]
    have hp : ((o + k) % 8 + 8 - 1) % 8 = (o + (k - 1)) % 8 := by omega
    have hp8 : (o + (k - 1)) % 8 < 8 := Nat.mod_lt _ (by decide)
    have eT := @tk_eq (x + 103) (x + 1) I (by rw [g5]; intro z; have := (nI_leI (b := 0) (by omega) (by decide)).mp z; omega)
    rw [hnx, hp] at eT
    have hc2 : ow_u (ow_u I (x + 103) 1 (nI ((o + (k - 1)) % 8))) (x + 103) 2 (ow_u I (x + 103) 1 (nI ((o + (k - 1)) % 8)) (x + 103) 2 - nI 1) (x + 103) 2 = nI (k - 1) := by
      rw [ow_u_s, u_one, if_neg (by decide), g5, nI_sb (by omega)]
    have hc1 : ow_u (ow_u I (x + 103) 1 (nI ((o + (k - 1)) % 8))) (x + 103) 2 (ow_u I (x + 103) 1 (nI ((o + (k - 1)) % 8)) (x + 103) 2 - nI 1) (x + 103) 1 = nI ((o + (k - 1)) % 8) := by
      rw [u_one, if_neg (by decide), ow_u_s]
    have hcr : ∀ b, b ≠ x + 103 → ow_u (ow_u I (x + 103) 1 (nI ((o + (k - 1)) % 8))) (x + 103) 2 (ow_u I (x + 103) 1 (nI ((o + (k - 1)) % 8)) (x + 103) 2 - nI 1) b = I b := fun b hb => by rw [rr_u hb, rr_u hb]
    generalize ow_u (ow_u I (x + 103) 1 (nI ((o + (k - 1)) % 8))) (x + 103) 2 (ow_u I (x + 103) 1 (nI ((o + (k - 1)) % 8)) (x + 103) 2 - nI 1) = I2 at eT hc1 hc2 hcr
    have hkH := a1.2.2.1 ((o + (k - 1)) % 8) hp8
    have hkH2 : k_V (x + 103 + 2 + 51 * ((o + (k - 1)) % 8)) I2 := kV_eq hkH (fun b z1 z2 => hcr b (by omega))
    have hkM2 : k_V (x + 1) I2 := kV_eq a1.1 (fun b z1 z2 => hcr b (by omega))
    have hT : ∀ b, (b < x + 1 ∨ x + 52 ≤ b) → H_takeBack (x + 103) (x + 1) I b = I2 b := fun b hb => by
      rw [eT]
      exact rr_kcp (by omega) (by omega) hkH2.1.2 hkH2.2.1.2
    have hTr : ∀ b, (b < x + 1 ∨ x + 52 ≤ b) → b ≠ x + 103 → H_takeBack (x + 103) (x + 1) I b = I b := fun b hb hb2 => (hT b hb).trans (hcr b hb2)
    have hst := g7 (k - 1) (by omega)
    have hst2 : rlv B (x + 103 + 2 + 51 * ((o + (k - 1)) % 8)) I2 (blk m J1 (1 + (o + (k - 1)) % 8)) := rlv_of hst (Nat.le_refl _) (fun b z1 z2 => hcr b (by omega)) (fun _ _ => rfl)
    have hcp := rl_cp (a := x + 1) hst2.1 hst2.2.1 (by omega)
    have hkN : k_V (x + 1) (H_takeBack (x + 103) (x + 1) I) := by
      rw [eT]
      exact kV_cp hkH2 hkM2 (by omega)
    -- the reference
    have cm := fun j => @cb_cells m (1 + (o + (k - 1)) % 8) 0 (ow_u J1 m 2 (nI (k - 1))) (by omega) j
    have cr : ∀ b, b ≠ m + 1 → M_copyBlock m (1 + (o + (k - 1)) % 8) 0 (ow_u J1 m 2 (nI (k - 1))) b = ow_u J1 m 2 (nI (k - 1)) b := fun b hb => rr_cb hb
    have cc : ∀ j, 370 ≤ j → M_copyBlock m (1 + (o + (k - 1)) % 8) 0 (ow_u J1 m 2 (nI (k - 1))) (m + 1) j = J1 (m + 1) j := fun j hj => by rw [cm j, if_neg (by omega), rr_u (by omega)]
    have c0 : ∀ j, j < 366 → M_copyBlock m (1 + (o + (k - 1)) % 8) 0 (ow_u J1 m 2 (nI (k - 1))) (m + 1) j = blk m J1 (1 + (o + (k - 1)) % 8) j := fun j hj => by
      rw [cm j, if_pos (by omega), rr_u (by omega)]
      rfl
    generalize M_copyBlock m (1 + (o + (k - 1)) % 8) 0 (ow_u J1 m 2 (nI (k - 1))) = J3 at cr cc c0 ⊢
    have m2 : J3 m 2 = nI (k - 1) := by rw [cr m (by omega), ow_u_s]
    have mo : ∀ j, j ≠ 2 → J3 m j = J1 m j := fun j hj => by rw [cr m (by omega), u_one, if_neg hj]
    have mr : ∀ b, b ≠ m → b ≠ m + 1 → J3 b = J1 b := fun b z1 z2 => by rw [cr b z2, rr_u z1]
    refine ⟨⟨⟨⟨hkN, kV_eq a1.2.1 (fun b z1 z2 => hTr b (by omega) (by omega)), fun i hi => kV_eq (a1.2.2.1 i hi) (fun b z1 z2 => hTr b (by omega) (by omega)), fun i hi => kV_eq (a1.2.2.2.1 i hi) (fun b z1 z2 => hTr b (by omega) (by omega)), ?_, in_row a1.2.2.2.2.2 (hTr _ (by omega) (by omega))⟩, cm_row a2 (hTr _ (by omega) (by omega)) (fun i hi => hTr _ (by omega) (by omega))⟩, ?_, ⟨o, k - 1, ?_, g2, m2, by omega, ?_, ?_, fun q hq => ?_⟩, RS_of a5 (Nat.le_refl _) (fun b hb => hTr b (by omega) (by omega)) (mr _ (by omega) (by omega)) (fun j z1 z2 => cc j (by omega)), RI_of a6 (hTr _ (by omega) (by omega)) (hTr _ (by omega) (by omega)) (mo 5 (by omega)) (mr _ (by omega) (by omega)), RE_of a7 (hTr _ (by omega) (by omega)) (mo 6 (by omega)) (mo 7 (by omega)), RW_of a8 (mr _ (by omega) (by omega))⟩, ?_, fun _ => ?_⟩
    all_goals (try dsimp only)
    · rw [hT _ (by omega), hc1, tn_nI (by omega)]
      exact ⟨nI_ge0 (by omega), hp8⟩
    · have : rlv B (x + 1) (H_takeBack (x + 103) (x + 1) I) (J3 (m + 1)) := rlv_of (a := x + 1) (I := H_takeBack (x + 103) (x + 1) I) (f := blk m J1 (1 + (o + (k - 1)) % 8)) ⟨by rw [eT]; exact hcp, hst2.2⟩ (Nat.le_refl _) (fun _ _ _ => rfl) c0
      exact this
    · rw [mo 1 (by omega), g1]
    · rw [hT _ (by omega), hc2]
    · rw [hT _ (by omega), hc1]
    · have hq8 : (o + q) % 8 < 8 := Nat.mod_lt _ (by decide)
      exact rlv_of (g7 q (by omega)) (Nat.le_refl _) (fun b z1 z2 => hTr b (by omega) (by omega)) (fun j hj => cc _ (by omega))
    · rw [mo 18 (by omega), z18]
      rfl
    · rw [hT _ (by omega), hc2, m2]
end RRF
