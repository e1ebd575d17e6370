/-! the barrels' number stays -/
section C7
variable {m : Nat}
theorem c7_close {I : ow_I} : M_closeBarrel m I (m + 1) 7 = I (m + 1) 7 := by
  simp only [M_closeBarrel, M_turnBack, M_sell, M_enqueue, M_put, M_putBarrel, lt_eq]
  (repeat' split) <;> simp (disch := omega) only [u_one, if_neg]
theorem c7_dq34 {b : Nat} : ∀ (n : Nat) (I : ow_I) (j : Nat), M_dequeue_L34 m b n I j (m + 1) 7 = I (m + 1) 7 := by
  intro n
  induction n with
  | zero => intro I j; rfl
  | succ n ih =>
    intro I j
    simp only [M_dequeue_L34, lt_eq]
    split
    · rfl
    · rw [ih, u_one, if_neg (by omega)]
theorem c7_dq2 {b : Nat} : ∀ (n : Nat) (I : ow_I) (j : Nat), M_dequeue_L2 m b n I j (m + 1) 7 = I (m + 1) 7 := by
  intro n
  induction n with
  | zero => intro I j; rfl
  | succ n ih =>
    intro I j
    simp only [M_dequeue_L2, lt_eq]
    split
    · rw [c7_dq34, u_one, if_neg (by omega)]
    · rw [ih]
theorem c7_open {I : ow_I} : M_openFirst m I (m + 1) 7 = I (m + 1) 7 := by
  simp only [M_openFirst, M_putBarrel, M_dequeue, lt_eq]
  split
  · rfl
  · simp (disch := omega) only [u_one, if_neg]
    exact c7_dq2 _ _ _
theorem c7_think {I : ow_I} : M_think m I (m + 1) 7 = I (m + 1) 7 := by
  simp only [M_think, M_nodNow, M_put, lt_eq]
  (repeat' split) <;> simp (disch := omega) only [u_one, if_neg, c7_close]
theorem c7_pass {I : ow_I} : M_passOne m I (m + 1) 7 = I (m + 1) 7 := by
  simp only [M_passOne, lt_eq]
  (repeat' split) <;> simp (disch := omega) only [c7_think, c7_open, c7_close, u_one, if_neg]
theorem c7_all {n2 : Nat} {c : Int32} : ∀ (n : Nat) (I : ow_I) (i : Nat), (M_passAll_L8 m n2 n I c i).2 (m + 1) 7 = I (m + 1) 7 := by
  intro n
  induction n with
  | zero => intro I i; rfl
  | succ n ih =>
    intro I i
    simp only [M_passAll_L8, lt_eq]
    split
    · rfl
    · rw [ih, c7_pass]
theorem passAll_7 {n : Nat} {I : ow_I} : (M_passAll m n I).2 (m + 1) 7 = I (m + 1) 7 := c7_all _ _ _
theorem passAll_1 {I : ow_I} : (M_passAll m 1 I).2 = M_passOne m I := by
  show (M_passAll_L8 m 1 2 I _ 0).2 = _
  unfold M_passAll_L8
  rw [if_neg (by decide), lt_eq]
  unfold M_passAll_L8
  rw [if_pos (by decide)]
end C7
/-! snapshots saved and restored; forecasts -/
section RRG
variable {x m B B' : Nat} {I I' J J' : ow_I}
theorem r_saveSnapshot {s : Int32} (h : RR x m B I J) : an x m B [1] (A_saveSnapshot x s I).1 () () (A_saveSnapshot x s I).2 (M_saveSnapshot m s J) := by
  have h1 := RR_18 (y := nI 0) h
  have z18 : ow_u J m 18 (nI 0) m 18 = nI 0 := ow_u_s _ _ _ _
  simp only [A_saveSnapshot, M_saveSnapshot, lt_eq]
  generalize ow_u J m 18 (nI 0) = J1 at h1 z18 ⊢
  rcases rng_or (v := s) (lo := nI 0) (hi := nI 1) (I := I) (J := J1) with ⟨p1, p2, p3, p4⟩ | ⟨p1, p2⟩
  · simp only [p1, p2, if_true]
    obtain ⟨y, hy, rfl⟩ := nI_ex (show 0 ≤ s from p3) (tn_lt s)
    have hs := (nI_leI hy (by decide)).mp p4
    rw [tn_nI hy]
    obtain ⟨⟨a1, a2⟩, a3, a4, a5, a6, a7, a8⟩ := id h1
    have k1 := kVn a1.1
    have er : ∀ b, (b < x + 564 + 51 * y ∨ x + 564 + 51 * y + 51 ≤ b) → K_copyFrom (x + 564 + 51 * y) (x + 1) I b = I b := fun b hb => rr_kcp hb (by omega) k1.1 k1.2
    have hkn : k_V (x + 564 + 51 * y) (K_copyFrom (x + 564 + 51 * y) (x + 1) I) := kV_cp a1.1 (a1.2.2.2.1 y (by omega)) (by omega)
    have hcp := rl_cp (a := x + 564 + 51 * y) a3.1 a3.2.1 (by omega)
    generalize K_copyFrom (x + 564 + 51 * y) (x + 1) I = I1 at er hkn hcp ⊢
    have ei : ∀ b, b ≠ x + 514 → ow_u I1 (x + 514) y (nI 1 &&& 1) b = I1 b := fun b hb => rr_u hb
    have cm := fun j => @cb_cells m 0 (9 + y) J1 (by omega) j
    have cr : ∀ b, b ≠ m + 1 → M_copyBlock m 0 (9 + y) J1 b = J1 b := fun b hb => rr_cb hb
    generalize M_copyBlock m 0 (9 + y) J1 = J2 at cm cr ⊢
    have ej : ∀ b, b ≠ m + 2 → ow_u J2 (m + 2) y (nI 1 &&& 1) b = J2 b := fun b hb => rr_u hb
    have em : ow_u J2 (m + 2) y (nI 1 &&& 1) m = J1 m := by rw [ej m (by omega), cr m (by omega)]
    have ec : ∀ j, j < 370 * (9 + y) → ow_u J2 (m + 2) y (nI 1 &&& 1) (m + 1) j = J1 (m + 1) j := fun j hj => by rw [ej _ (by omega), cm j, if_neg (by omega)]
    refine ⟨⟨⟨⟨kV_eq a1.1 (fun b z1 z2 => by rw [ei b (by omega), er b (by omega)]), kV_eq a1.2.1 (fun b z1 z2 => by rw [ei b (by omega), er b (by omega)]), fun i hi => kV_eq (a1.2.2.1 i hi) (fun b z1 z2 => by rw [ei b (by omega), er b (by omega)]), fun i hi => ?_, by rw [ei _ (by omega), er _ (by omega)]; exact a1.2.2.2.2.1, in_row a1.2.2.2.2.2 (by rw [ei _ (by omega), er _ (by omega)])⟩, cm_row a2 (by rw [ei _ (by omega), er _ (by omega)]) (fun i hi => by rw [ei _ (by omega), er _ (by omega)])⟩, st_of a3 (Nat.le_refl _) (fun b z1 z2 => by rw [ei b (by omega), er b (by omega)]) (fun j hj => ec j (by omega)), RH_of a4 (Nat.le_refl _) (fun b z1 z2 => by rw [ei b (by omega), er b (by omega)]) (by rw [em]) (by rw [em]) (fun j z1 z2 => ec j (by omega)), fun s hs2 => ?_, RI_of a6 (by rw [ei _ (by omega), er _ (by omega)]) (by rw [ei _ (by omega), er _ (by omega)]) (by rw [em]) (by rw [ej _ (by omega), cr _ (by omega)]), RE_of a7 (by rw [ei _ (by omega), er _ (by omega)]) (by rw [em]) (by rw [em]), RW_of a8 (by rw [ej _ (by omega), cr _ (by omega)])⟩, ?_, fun _ => rfl⟩
    all_goals (try dsimp only)
    · by_cases d : i = y
      · rw [d]
        exact kV_eq hkn (fun b z1 z2 => ei b (by omega))
      · exact kV_eq (a1.2.2.2.1 i hi) (fun b z1 z2 => by rw [ei b (by omega), er b (by omega)])
    · by_cases d : s = y
      · rw [d, ow_u_s, ow_u_s]
        refine ⟨rfl, fun _ => rlv_of (a := x + 564 + 51 * y) (f := J1 (m + 1)) ⟨hcp, a3.2⟩ (Nat.le_refl _) (fun b z1 z2 => ei b (by omega)) (fun j hj => ?_)⟩
        show ow_u J2 (m + 2) y (nI 1 &&& 1) (m + 1) (370 * (9 + y) + j) = J1 (m + 1) j
        rw [ej _ (by omega), cm, if_pos (by omega)]
        exact congrArg (J1 (m + 1)) (by omega)
      · have q := a5 s hs2
        rw [u_one, if_neg d, u_one, if_neg d, er _ (by omega), cr _ (by omega)]
        refine ⟨q.1, fun z => rlv_of (q.2 z) (Nat.le_refl _) (fun b z1 z2 => by rw [ei b (by omega), er b (by omega)]) (fun j hj => ?_)⟩
        show ow_u J2 (m + 2) y (nI 1 &&& 1) (m + 1) (370 * (9 + s) + j) = J1 (m + 1) (370 * (9 + s) + j)
        rw [ej _ (by omega), cm, if_neg (by omega)]
    · rw [em, z18]
      rfl
  · simp only [p1, p2]
    rw [if_neg (show ¬ (1 : Nat) = 0 by decide), if_neg (show ¬ false = true by decide)]
    exact ⟨RR_18 h1, ow_u_s _ _ _ _, fun z => ns0 z⟩
theorem r_restoreSnapshot {s : Int32} (h : RR x m B I J) : an x m B [1, 4] (A_restoreSnapshot x s I).1 (A_restoreSnapshot x s I).2.1 (M_restoreSnapshot m s J).1 (A_restoreSnapshot x s I).2.2 (M_restoreSnapshot m s J).2 := by
  have h1 := RR_18 (y := nI 0) h
  have z18 : ow_u J m 18 (nI 0) m 18 = nI 0 := ow_u_s _ _ _ _
  simp only [A_restoreSnapshot, M_restoreSnapshot, lt_eq]
  generalize ow_u J m 18 (nI 0) = J1 at h1 z18 ⊢
  rcases rng_or (v := s) (lo := nI 0) (hi := nI 1) (I := I) (J := J1) with ⟨p1, p2, p3, p4⟩ | ⟨p1, p2⟩
  · simp only [p1, p2, if_true]
    obtain ⟨y, hy, rfl⟩ := nI_ex (show 0 ≤ s from p3) (tn_lt s)
    have hs := (nI_leI hy (by decide)).mp p4
    rw [tn_nI hy]
    have q := h1.2.2.2.1 y (by omega)
    rw [q.1]
    by_cases c : J1 (m + 2) y = 0
    · rw [if_pos c, if_pos c]
      exact ⟨RR_18 h1, ow_u_s _ _ _ _, fun z => ns0 z⟩
    · rw [if_neg c, if_neg c]
      have h2 := RR_rem h1
      have hk := keepO h1
      have k18 := (keep18 h1).trans z18
      have c2 : ¬ M_keep m 0 J1 (m + 2) y = 0 := by rw [rr_keep hk.1 hk.2 (by omega) (by omega)]; exact c
      generalize H_remember (x + 103) (x + 1) I = I1 at h2 ⊢
      generalize M_keep m 0 J1 = J2 at h2 k18 c2 ⊢
      have q2 := (h2.2.2.2.1 y (by omega)).2 c2
      have a1 := h2.1.1
      have hkS := a1.2.2.2.1 y (by omega)
      have hcp := rl_cp (a := x + 1) q2.1 q2.2.1 (by omega)
      have cm := fun j => @cb_cells m (9 + y) 0 J2 (by omega) j
      have hst : st (x + 1) m B (K_copyFrom (x + 1) (x + 564 + 51 * y) I1) (M_copyBlock m (9 + y) 0 J2) := rlv_of (a := x + 1) (I := K_copyFrom (x + 1) (x + 564 + 51 * y) I1) (f := blk m J2 (9 + y)) ⟨hcp, q2.2⟩ (Nat.le_refl _) (fun _ _ _ => rfl) (fun j hj => by rw [cm j, if_pos (by omega)]; rfl)
      dsimp only
      refine ⟨RR_act h2 (Nat.le_refl _) hst (kV_cp hkS a1.1 (by omega)) (fun q hq _ => rr_kcp (by omega) (by omega) (kV_get8 hkS) hkS.2.1.2) (fun b hb => rr_cb hb) (fun j hj => by rw [cm j, if_neg (by omega)]), ?_, fun _ => ?_⟩
      · rw [rr_cb (by omega), k18]
        rfl
      · exact hst.1.1.2.2
  · simp only [p1, p2]
    rw [if_neg (show ¬ (1 : Nat) = 0 by decide), if_neg (show ¬ false = true by decide)]
    exact ⟨RR_18 h1, ow_u_s _ _ _ _, fun z => ns0 z⟩
/-- a trial: the scratch market and block 12 alone -/
theorem RR_tri (h : RR x m B I J) (eI : ∀ b, (b < x + 52 ∨ x + 103 ≤ b) → I' b = I b) (hs : k_V (x + 52) I') (eJ : ∀ b, b ≠ m + 1 → J' b = J b) (eC : ∀ j, j < 4440 → J' (m + 1) j = J (m + 1) j) : RR x m B I' J' := by
  obtain ⟨⟨h1, h2⟩, h3, h4, h5, h6, h7, h8⟩ := h
  have em := eJ m (by omega)
  exact ⟨au_row h1 h2 (kV_eq h1.1 (fun b z1 z2 => eI b (by omega))) hs (fun b hb => eI b (by omega)), st_of h3 (Nat.le_refl _) (fun b z1 z2 => eI b (by omega)) (fun j hj => eC j (by omega)), RH_of h4 (Nat.le_refl _) (fun b g1 g2 => eI b (by omega)) (by rw [em]) (by rw [em]) (fun j g1 _ => eC j (by omega)), RS_of h5 (Nat.le_refl _) (fun b g => eI b (by omega)) (eJ _ (by omega)) (fun j g1 _ => eC j (by omega)), RI_of h6 (eI _ (by omega)) (eI _ (by omega)) (by rw [em]) (eJ _ (by omega)), RE_of h7 (eI _ (by omega)) (by rw [em]) (by rw [em]), RW_of h8 (eJ _ (by omega))⟩
/-- the trial ends: block 12 into block 0 -/
theorem end_J (f : md_F m (M_copyBlock m 0 12 J) J') : (∀ b, b ≠ m + 1 → M_copyBlock m 12 0 J' b = J b) ∧ ∀ j, j < 4440 → M_copyBlock m 12 0 J' (m + 1) j = J (m + 1) j := by
  refine ⟨fun b hb => by rw [rr_cb hb, f.1 b hb, rr_cb hb], fun j hj => ?_⟩
  rw [cb_cells (by omega)]
  by_cases c : j < 370
  · rw [if_pos (by omega), f.2 _ (Or.inl (by omega)), cb_cells (by omega), if_pos (by omega)]
    exact congrArg (J (m + 1)) (by omega)
  · rw [if_neg (by omega), f.2 _ (Or.inl (by omega)), cb_cells (by omega), if_neg (by omega)]
theorem st_12 (h : RR x m B I J) : st (x + 52) m B (K_copyFrom (x + 52) (x + 1) I) (M_copyBlock m 0 12 J) := by
  have hcp := rl_cp (a := x + 52) h.2.1.1 h.2.1.2.1 (by omega)
  exact rlv_of (a := x + 52) (I := K_copyFrom (x + 52) (x + 1) I) (f := J (m + 1)) ⟨hcp, h.2.1.2⟩ (Nat.le_refl _) (fun _ _ _ => rfl) (fun j hj => by rw [cb_cells (by omega), if_neg (by omega)])
theorem st_fs {s : Int32} {n : Nat} (h : RR x m B I J) (hs : ∃ c : Nat, s = nI c ∧ 1 ≤ c ∧ c ≤ 50) (hB : B + n < 2 ^ 30) : st (x + 52) m (B + n) (A_foresee x s n I) (M_passAll m n (ow_u (M_copyBlock m 0 12 J) (m + 1) 3 s)).2 := by
  simp only [A_foresee, lt_eq]
  exact (st_let (st_stp (st_12 h) hs) hB).1
theorem fs_F {s : Int32} {n : Nat} (h : RR x m B I J) (hs : ∃ c : Nat, s = nI c ∧ 1 ≤ c ∧ c ≤ 50) : md_F m (M_copyBlock m 0 12 J) (M_passAll m n (ow_u (M_copyBlock m 0 12 J) (m + 1) 3 s)).2 := by
  have hv := (st_stp (st_12 h) hs).2.1
  have f := F_passAll (m := m) (n := n) (I := ow_u (M_copyBlock m 0 12 J) (m + 1) 3 s) hv
  refine ⟨fun a ha => by rw [f.1 a ha, rr_u ha], fun k hk => ?_⟩
  rw [f.2 k hk, u_one, if_neg (by omega)]
theorem stp_of (h : RR x m B I J) : ∃ c : Nat, J (m + 1) 3 = nI c ∧ 1 ≤ c ∧ c ≤ 50 := h.2.1.2.2.1.2.2.1
theorem RR_fsee {s : Int32} {n : Nat} (h : RR x m B I J) (hs : ∃ c : Nat, s = nI c ∧ 1 ≤ c ∧ c ≤ 50) : RR x m B (A_foresee x s n I) (M_copyBlock m 12 0 (M_passAll m n (ow_u (M_copyBlock m 0 12 J) (m + 1) 3 s)).2) :=
  RR_tri h (fun b hb => rr_fs h.1.1.1 h.1.1.2.1 hb) (kV_fs h.1.1.1 h.1.1.2.1) (end_J (fs_F h hs)).1 (end_J (fs_F h hs)).2
theorem r_coinsWith {s : Int32} {n : Nat} (h : RR x m B I J) (hs : ∃ c : Nat, s = nI c ∧ 1 ≤ c ∧ c ≤ 50) (hB : B + n < 2 ^ 30) : RR x m B (A_foresee x s n I) (M_coinsWith m s n J).2 ∧ (M_coinsWith m s n J).2 m 18 = J m 18 ∧ A_foresee x s n I (x + 52) 4 = (M_coinsWith m s n J).1 ∧ ∃ c : Nat, (M_coinsWith m s n J).1 = nI c ∧ c ≤ 2000000 := by
  have hst := st_fs h hs hB
  simp only [M_coinsWith, M_endTrial, lt_eq]
  refine ⟨RR_fsee h hs, by rw [(end_J (fs_F h hs)).1 m (by omega)], hst.1.2.1.2.2.2.1, ?_⟩
  obtain ⟨c, e, hc⟩ := hst.2.2.2.2.2.2.2
  have := sdN_le ((M_passAll m n (ow_u (M_copyBlock m 0 12 J) (m + 1) 3 s)).2 (m + 1)) (tn ((M_passAll m n (ow_u (M_copyBlock m 0 12 J) (m + 1) 3 s)).2 (m + 1) 7))
  have h7 := hst.2.1.2.2.1.2
  exact ⟨c, e, by omega⟩
theorem r_sellerCoinsAfter {n : Int32} (h : RR x m B I J) (hB : B < 2 ^ 29) : an x m B [1] (A_sellerCoinsAfter x n I).1 (A_sellerCoinsAfter x n I).2.1 (M_sellerCoinsAfter m n J).1 (A_sellerCoinsAfter x n I).2.2 (M_sellerCoinsAfter m n J).2 := by
  have h1 := RR_18 (y := nI 0) h
  have z18 : ow_u J m 18 (nI 0) m 18 = nI 0 := ow_u_s _ _ _ _
  simp only [A_sellerCoinsAfter, M_sellerCoinsAfter, lt_eq]
  generalize ow_u J m 18 (nI 0) = J1 at h1 z18 ⊢
  rcases rng_or (v := n) (lo := nI 0) (hi := nI 500) (I := I) (J := J1) with ⟨p1, p2, p3, p4⟩ | ⟨p1, p2⟩
  · simp only [p1, p2, if_true]
    obtain ⟨y, hy, rfl⟩ := nI_ex (show 0 ≤ n from p3) (tn_lt n)
    have hs := (nI_leI hy (by decide)).mp p4
    rw [tn_nI hy, h1.2.1.1.2.1.2.1]
    obtain ⟨k1, k2, k3, -⟩ := r_coinsWith (n := y) h1 (stp_of h1) (by omega)
    exact ⟨k1, by rw [k2, z18]; rfl, fun _ => k3⟩
  · simp only [p1, p2]
    rw [if_neg (show ¬ (1 : Nat) = 0 by decide), if_neg (show ¬ false = true by decide)]
    exact ⟨RR_18 h1, ow_u_s _ _ _ _, fun z => ns0 z⟩
theorem best_loop {n : Nat} (hn : n ≤ 500) (hB : B < 2 ^ 29) : ∀ (k i : Nat) (I J : ow_I) (w b t : Int32), RR x m B I J → 1 ≤ i → 51 - i < k → i ≤ 51 → (w = b ∨ (t = -1 ∧ i ≤ 50)) →
    RR x m B (A_bestStep_L15 x (nI n) k I w t i).2.2 (M_bestStep_L38 m (nI n) k J b t i).2 ∧ (M_bestStep_L38 m (nI n) k J b t i).2 m 18 = J m 18 ∧ (A_bestStep_L15 x (nI n) k I w t i).1 = 0 ∧ (A_bestStep_L15 x (nI n) k I w t i).2.1 = (M_bestStep_L38 m (nI n) k J b t i).1 := by
  intro k
  induction k with
  | zero => intro i I J w b t h h1 h2; omega
  | succ k ih =>
    intro i I J w b t h h1 h2 h3 hw
    unfold A_bestStep_L15 M_bestStep_L38
    by_cases c : 50 < i
    · rw [if_pos c, if_pos c]
      refine ⟨h, rfl, rfl, ?_⟩
      rcases hw with hw | ⟨-, hw⟩
      · exact hw
      · omega
    · rw [if_neg c, if_neg c, lt_eq, lt_eq, tn_nI (by omega)]
      obtain ⟨k1, k2, k3, ⟨cc, k4, k5⟩⟩ := r_coinsWith (n := n) (s := nI i) h ⟨i, rfl, h1, by omega⟩ (by omega)
      rw [k3]
      generalize M_coinsWith m (nI i) n J = R at k1 k2 k3 k4 ⊢
      by_cases d : t < R.1
      · rw [if_pos d, if_neg (show ¬ R.1 ≤ t from fun z => by rw [Int32.le_iff_toInt_le] at z; rw [Int32.lt_iff_toInt_lt] at d; omega)]
        obtain ⟨g1, g2, g3, g4⟩ := ih (i + 1) _ _ (nI i) (nI i) R.1 k1 (by omega) (by omega) (by omega) (Or.inl rfl)
        exact ⟨g1, g2.trans k2, g3, g4⟩
      · rw [if_neg d, if_pos (show R.1 ≤ t from i_nlt d)]
        have hw2 : w = b := by
          rcases hw with hw | ⟨hw, -⟩
          · exact hw
          · exfalso
            apply d
            rw [hw, k4]
            exact i_lt (by
              intro z
              have : (0 : Int32) ≤ -1 := by
                have h0 := nI_ge0 (n := cc) (by omega)
                rw [Int32.le_iff_toInt_le] at z h0 ⊢
                exact Int.le_trans h0 z
              exact absurd this (by decide))
        obtain ⟨g1, g2, g3, g4⟩ := ih (i + 1) _ _ w b t k1 (by omega) (by omega) (by omega) (Or.inl hw2)
        exact ⟨g1, g2.trans k2, g3, g4⟩
theorem r_bestStep {n : Int32} (h : RR x m B I J) (hB : B < 2 ^ 29) : an x m B [1] (A_bestStep x n I).1 (A_bestStep x n I).2.1 (M_bestStep m n J).1 (A_bestStep x n I).2.2 (M_bestStep m n J).2 := by
  have h1 := RR_18 (y := nI 0) h
  have z18 : ow_u J m 18 (nI 0) m 18 = nI 0 := ow_u_s _ _ _ _
  simp only [A_bestStep, M_bestStep, lt_eq]
  generalize ow_u J m 18 (nI 0) = J1 at h1 z18 ⊢
  rcases rng_or (v := n) (lo := nI 0) (hi := nI 500) (I := I) (J := J1) with ⟨p1, p2, p3, p4⟩ | ⟨p1, p2⟩
  · simp only [p1, p2, if_true]
    obtain ⟨y, hy, rfl⟩ := nI_ex (show 0 ≤ n from p3) (tn_lt n)
    have hs := (nI_leI hy (by decide)).mp p4
    obtain ⟨k1, k2, k3, k4⟩ := best_loop (n := y) hs hB 51 1 I J1 (-1) (nI 0) (-1) h1 (by omega) (by omega) (by omega) (Or.inr ⟨rfl, by omega⟩)
    exact ⟨k1, by rw [k2, z18, k3]; rfl, fun _ => k4⟩
  · simp only [p1, p2]
    rw [if_neg (show ¬ (1 : Nat) = 0 by decide), if_neg (show ¬ false = true by decide)]
    exact ⟨RR_18 h1, ow_u_s _ _ _ _, fun z => ns0 z⟩
theorem r_buyerAfter {b n : Int32} (h : RR x m B I J) (hB : B < 2 ^ 29) : an x m B [3, 1] (A_buyerAfter x b n I).1 (A_buyerAfter x b n I).2.1 (M_buyerAfter m b n J).1 (A_buyerAfter x b n I).2.2 (M_buyerAfter m b n J).2 := by
  rcases bar_or (b := b) h with ⟨q1, -, q3, q4, q5, q6⟩ | ⟨q1, -, q3⟩
  · have h1 := RR_18 (y := nI 0) h
    have e7 : ow_u J m 18 (nI 0) (m + 1) = J (m + 1) := e18 (by omega)
    have z18 : ow_u J m 18 (nI 0) m 18 = nI 0 := ow_u_s _ _ _ _
    rw [← e7] at q6
    simp only [A_buyerAfter, M_buyerAfter, lt_eq, q1, q3, if_true]
    rw [if_neg (show ¬ false = true by decide)]
    generalize ow_u J m 18 (nI 0) = J1 at h1 q6 z18 ⊢
    have h7 := h1.2.1.2.1.2.2.1.2
    rcases rng_or (v := n) (lo := nI 0) (hi := nI 500) (I := I) (J := J1) with ⟨p1, p2, p3, p4⟩ | ⟨p1, p2⟩
    · simp only [p1, p2, if_true]
      obtain ⟨y, hy, rfl⟩ := nI_ex (show 0 ≤ n from p3) (tn_lt n)
      have hs := (nI_leI hy (by decide)).mp p4
      obtain ⟨d, hd, rfl⟩ := nI_ex q5 q6
      rw [tn_nI hy, tn_nI (by omega), h1.2.1.1.2.1.2.1]
      have e3 : ow_u (M_copyBlock m 0 12 J1) (m + 1) 3 (J1 (m + 1) 3) = M_copyBlock m 0 12 J1 := by
        funext p q
        by_cases e : p = m + 1 ∧ q = 3
        · rw [e.1, e.2, ow_u_s, cb_cells (by omega), if_neg (by omega)]
        · by_cases e1 : p = m + 1
          · rw [e1, u_one, if_neg (fun z => e ⟨e1, z⟩)]
          · rw [rr_u e1]
      have g := RR_fsee (n := y) h1 (stp_of h1)
      have f := fs_F (n := y) h1 (stp_of h1)
      have s := st_fs (n := y) h1 (stp_of h1) (by omega)
      rw [e3] at g f s
      have h7' : tn ((M_passAll m y (M_copyBlock m 0 12 J1)).2 (m + 1) 7) = tn (J1 (m + 1) 7) := by
        rw [passAll_7, cb_cells (by omega), if_neg (by omega)]
      have hr := s.1.2.2.2.2.2.2 d (by rw [h7']; exact hd)
      unfold M_endTrial
      simp only [lt_eq]
      refine ⟨g, ?_, fun _ => hr.2.2.2.2.2.1⟩
      rw [(end_J f).1 m (by omega), z18]
      rfl
    · simp only [p1, p2]
      rw [if_neg (show ¬ (1 : Nat) = 0 by decide), if_neg (show ¬ false = true by decide)]
      exact ⟨RR_18 h1, ow_u_s _ _ _ _, fun z => ns0 z⟩
  · simp only [A_buyerAfter, M_buyerAfter, lt_eq, q1, q3, if_true]
    rw [if_neg (by decide)]
    exact ⟨RR_18 (RR_18 h), ow_u_s _ _ _ _, fun z => ns0 z⟩
theorem mts_loop {d : Nat} (hd : d < 20) (hB : B < 2 ^ 29) : ∀ (k i : Nat) (Y L : ow_I), st (x + 52) m (B + i) Y L → d < tn (L (m + 1) 7) → i ≤ 500 → 500 - i < k → ¬ L (m + 1) (66 + 15 * d + 12) = nI 2 → md_F m (M_copyBlock m 0 12 J) L → k_V (x + 52) Y → (∀ b, (b < x + 52 ∨ x + 103 ≤ b) → Y b = I b) →
    ∃ L', (∃ v, M_minutesToSale_L19 m (nI d) k L i = (v, M_copyBlock m 12 0 L') ∧ (A_minutesToSale_L37 x (nI d) k Y (i + 1)).2.1 = v) ∧ md_F m (M_copyBlock m 0 12 J) L' ∧ (A_minutesToSale_L37 x (nI d) k Y (i + 1)).1 = 0 ∧ k_V (x + 52) (A_minutesToSale_L37 x (nI d) k Y (i + 1)).2.2 ∧ ∀ b, (b < x + 52 ∨ x + 103 ≤ b) → (A_minutesToSale_L37 x (nI d) k Y (i + 1)).2.2 b = I b := by
  intro k
  induction k with
  | zero => intro i Y L h1 h2 h3 h4; omega
  | succ k ih =>
    intro i Y L h1 h2 h3 h4 h5 h6 h7 h8
    have ed : tn (nI d) = d := tn_nI (by omega)
    unfold A_minutesToSale_L37 M_minutesToSale_L19
    rw [ed]
    simp only [lt_eq, M_endTrial]
    unfold M_ofBarrel
    rw [if_neg h5, if_neg h5]
    by_cases c : 500 ≤ i
    · rw [if_pos c, if_pos (by omega)]
      exact ⟨L, ⟨_, rfl, rfl⟩, h6, rfl, h7, h8⟩
    · rw [if_neg c, if_neg (by omega)]
      have g := (st_let (n2 := 1) h1 (by omega)).1
      rw [passAll_1] at g
      have kn := kV_let (n2 := 1) h7
      have rn : ∀ b, (b < x + 52 ∨ x + 103 ≤ b) → (K_letPass (x + 52) 1 Y).2 b = I b := fun b hb => (rr_let (n2 := 1) (by omega) h7).trans (h8 b hb)
      have fn := F_t h6 (F_passOne h1.2.1)
      have n7 : d < tn (M_passOne m L (m + 1) 7) := by rw [c7_pass]; exact h2
      have hr := (g.1.2.2.2.2.2.2 d n7).2.2.2.2.1
      generalize (K_letPass (x + 52) 1 Y).2 = Y2 at g kn rn hr ⊢
      generalize M_passOne m L = L2 at g fn n7 hr ⊢
      have hr : Y2 (x + 52 + 11 + 2 * d) 7 = L2 (m + 1) (66 + 15 * d + 12) := hr
      rw [hr]
      by_cases e : L2 (m + 1) (66 + 15 * d + 12) = nI 2
      · rw [if_pos e]
        refine ⟨L2, ⟨nI (i + 1), ?_, rfl⟩, fn, rfl, kn, rn⟩
        cases k with
        | zero => omega
        | succ k =>
          unfold M_minutesToSale_L19
          rw [ed]
          simp only [lt_eq, M_endTrial]
          unfold M_ofBarrel
          rw [if_pos e, if_pos e]
      · rw [if_neg e]
        exact ih (i + 1) Y2 L2 g n7 (by omega) (by omega) e fn kn rn
theorem r_minutesToSale {b : Int32} (h : RR x m B I J) (hB : B < 2 ^ 29) : an x m B [3] (A_minutesToSale x b I).1 (A_minutesToSale x b I).2.1 (M_minutesToSale m b J).1 (A_minutesToSale x b I).2.2 (M_minutesToSale m b J).2 := by
  rcases bar_or (b := b) h with ⟨-, q1, q3, q4, q5, q6⟩ | ⟨-, q1, q3⟩
  · have h1 := RR_18 (y := nI 0) h
    have e7 : ow_u J m 18 (nI 0) (m + 1) = J (m + 1) := e18 (by omega)
    have z18 : ow_u J m 18 (nI 0) m 18 = nI 0 := ow_u_s _ _ _ _
    rw [← e7] at q6
    simp only [A_minutesToSale, M_minutesToSale, lt_eq, q1, q3, if_true]
    rw [if_neg (show ¬ false = true by decide)]
    generalize ow_u J m 18 (nI 0) = J1 at h1 q6 z18 ⊢
    have h7 := h1.2.1.2.1.2.2.1.2
    obtain ⟨d, hd, rfl⟩ := nI_ex q5 q6
    have ed : tn (nI d) = d := tn_nI (by omega)
    have hr : I (x + 1 + 11 + 2 * d) 7 = J1 (m + 1) (66 + 15 * d + 12) := (h1.2.1.1.2.2.2.2.2.2 d hd).2.2.2.2.1
    have cd : M_copyBlock m 0 12 J1 (m + 1) (66 + 15 * d + 12) = J1 (m + 1) (66 + 15 * d + 12) := by rw [cb_cells (by omega), if_neg (by omega)]
    have hv := h1.1.1
    rw [ed, hr]
    by_cases c : J1 (m + 1) (66 + 15 * d + 12) = nI 2
    · rw [if_pos c]
      have hL : M_minutesToSale_L19 m (nI d) 501 (M_copyBlock m 0 12 J1) 0 = (nI 0, M_copyBlock m 12 0 (M_copyBlock m 0 12 J1)) := by
        unfold M_minutesToSale_L19
        rw [ed]
        simp only [lt_eq, M_endTrial]
        unfold M_ofBarrel
        rw [if_pos (by rw [cd]; exact c), if_pos (by rw [cd]; exact c)]
      rw [hL]
      have f : md_F m (M_copyBlock m 0 12 J1) (M_copyBlock m 0 12 J1) := F_r
      dsimp only
      refine ⟨RR_tri h1 (fun _ _ => rfl) hv.2.1 (end_J f).1 (end_J f).2, ?_, fun _ => rfl⟩
      rw [(end_J f).1 m (by omega), z18]
      rfl
    · rw [if_neg c]
      obtain ⟨L', ⟨v, g1, g2⟩, g3, g4, g5, g6⟩ := mts_loop (I := I) (J := J1) (d := d) (by omega) hB 501 0 (K_copyFrom (x + 52) (x + 1) I) (M_copyBlock m 0 12 J1) (st_12 h1) (by rw [cb_cells (by omega), if_neg (by omega)]; exact hd) (by omega) (by omega) (by rw [cd]; exact c) F_r (kV_sc hv.1 hv.2.1) (fun b hb => rr_sc hv.1 hb)
      rw [g1]
      dsimp only
      generalize A_minutesToSale_L37 x (nI d) 501 (K_copyFrom (x + 52) (x + 1) I) 1 = R at g2 g4 g5 g6 ⊢
      refine ⟨RR_tri h1 g6 g5 (end_J g3).1 (end_J g3).2, ?_, fun _ => g2⟩
      rw [(end_J g3).1 m (by omega), z18, g4]
      rfl
  · simp only [A_minutesToSale, M_minutesToSale, lt_eq, q1, q3, if_true]
    rw [if_neg (by decide)]
    exact ⟨RR_18 (RR_18 h), ow_u_s _ _ _ _, fun z => ns0 z⟩
end RRG
