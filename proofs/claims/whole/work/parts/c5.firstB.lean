/-! THE FIRST RELATION -/
section FSU
variable {m u x : Nat} {I I' J J' : ow_I}
theorem ag_en {b : Nat} (h : ag m I I') (hb : b < 20) : ag m (M_enqueue m b I) (M_enqueue 0 b I') := by
  simp only [M_enqueue, lt_eq]
  rw [← h 12 (by omega)]
  have a2 := ag_u (k := 16 + tn (I (m + 1) 12)) (v := nI b) (ag_pb (b := b) (w := 12) (v := nI 0) h) rfl
  exact ag_u (k := 12) a2 (congrArg (fun z => z + nI 1) (a2 12 (by omega)))
theorem ag_nb {r : Int32} (h : ag m I I') (hb : tn (I (m + 1) 7) < 20) : ag m (M_newBarrel m r I).2 (M_newBarrel 0 r I').2 := by
  have e7 := h 7 (by omega)
  simp only [M_newBarrel, lt_eq]
  rw [← e7]
  have a5 := ag_pb (b := tn (I (m + 1) 7)) (w := 14) (v := -1) (ag_pb (b := tn (I (m + 1) 7)) (w := 13) (v := -1) (ag_pb (b := tn (I (m + 1) 7)) (w := 11) (v := nI 0) (ag_pb (b := tn (I (m + 1) 7)) (w := 10) (v := r) (ag_pb (b := tn (I (m + 1) 7)) (w := 0) (v := nI 0) h))))
  exact ag_en (ag_u (k := 7) a5 (congrArg (fun z => z + nI 1) (a5 7 (by omega)))) hb
theorem mi_ag (I0 I1 : ow_I) : ag m (mi_I m I0) (mi_I 0 I1) := by
  have N1 : mi_N m (mi_1 m I0) 3 0 (fun _ => 0) := mi_buy (mi_buy (mi_buy mi_bm (by decide)) (by decide)) (by decide)
  have b1 : ag m (mi_1 m I0) (mi_1 0 I1) := ag_ab (ag_ab (ag_ab ag_bm))
  have N2 := mi_eel (x := nI 30) (mi_eel (x := nI 55) (mi_eel (x := nI 40) (mi_new (r := nI 20) N1 (by decide)) (show 0 < 3 by decide) (by decide)) (show 0 < 3 by decide) (by decide)) (show 0 < 3 by decide) (by decide)
  have b2 : ag m (mi_2 m (mi_1 m I0)) (mi_2 0 (mi_1 0 I1)) := ag_ae (ag_ae (ag_ae (ag_nb b1 (mi_h7 N1 (by decide)).1.2) (by decide)) (by decide)) (by decide)
  have N3 := mi_eel (x := nI 90) (mi_eel (x := nI 100) (mi_new (r := nI 50) N2 (by decide)) (show 1 < 3 by decide) (by decide)) (show 1 < 3 by decide) (by decide)
  have b3 : ag m (mi_3 m (mi_2 m (mi_1 m I0))) (mi_3 0 (mi_2 0 (mi_1 0 I1))) := ag_ae (ag_ae (ag_nb b2 (mi_h7 N2 (by decide)).1.2) (by decide)) (by decide)
  have t3 : tn (mi_3 m (mi_2 m (mi_1 m I0)) (m + 1) 7) < 20 := (mi_h7 N3 (by decide)).1.2
  have b4 := ag_nb (r := nI 10) b3 t3
  unfold mi_I mi_4
  exact ag_ae b4 (by decide)
theorem mi_rr {I0 : ow_I} {b : Nat} (h : b ≠ m + 1) : mi_I m I0 b = I0 b := by
  unfold mi_I mi_4 mi_3 mi_2 mi_1
  rw [rr_addEel h, rr_newBarrel h, rr_addEel h, rr_addEel h, rr_newBarrel h, rr_addEel h, rr_addEel h, rr_addEel h, rr_newBarrel h, rr_addBuyer h, rr_addBuyer h, rr_addBuyer h, rr_begin h]
theorem RR_first {Z : Nat → Nat} {S1 : Nat → Option ow_Sh} {V1 : Nat → Nat → Value} {I0 K0 : ow_I} (hI : ∀ b, x ≤ b → b < x + 666 → I b = ai_I x I0 b) (hJ : ∀ b, m ≤ b → b < m + 8 → J b = mi_I m K0 b) (hP : ai_P Z x S1 I0 V1) (hM : mi_P m K0) : RR x m 0 I J ∧ J m 17 = nI 0 := by
  obtain ⟨-, ⟨-, -, ⟨⟨k1, k2, k3⟩, o1, o2, sv⟩, ⟨cm0, -, inp, er1, er2⟩, -, -⟩, k4⟩ := hP
  obtain ⟨⟨m1, m2, m5, m6, m7, m15, m17, m18⟩, mS, mW⟩ := hM
  have hin0 : in_R (I0 (x + 515 + 1)) := ⟨by rw [inp]; decide, by rw [inp]; decide, by rw [inp]; decide⟩
  have a0 := as_L (u := x + 515 + 1) (gl_len 9 + 1) 0 I0 (Nat.zero_le _) (by omega) (by rw [inp]; rfl) (fun j hj => by omega)
  have hinU := @in_as (x + 515 + 1) 9 I0 hin0
  have eU : U_addSigns (x + 515 + 1) 9 I0 = U_addSigns_L2 (x + 515 + 1) 9 (gl_len 9 + 1) I0 0 := rfl
  rw [← eU] at a0
  have eA : ∀ b, x ≤ b → b < x + 666 → I b = ow_u (Q_readSetup (x + 515) (x + 1) (U_addSigns (x + 515 + 1) 9 I0)).2 (x + 515 + 1) 1 (nI 0) b := hI
  obtain ⟨u1, u2, u3⟩ := a0
  generalize U_addSigns (x + 515 + 1) 9 I0 = U at hinU u1 u2 u3 eA
  have hx : tx (x + 515 + 1) 0 U fs_J (gl_len 9) := ⟨u1, rfl, fs_len, fun i hi => by
    have f := fs_ch ⟨i, by have := fs_len; omega⟩ hi
    exact ⟨gl_ch 9 i, f.1, u2 i hi, f.2⟩⟩
  have hR : RW 0 fs_J := fun j _ => rfl
  have hcs : cs (x + 515) (x + 1) U U := ⟨⟨hinU, kV_eq k1 (fun b z1 z2 => u3 b (by omega) (by omega)), fun _ _ _ => rfl⟩, cm_row cm0 (u3 _ (by omega) (by omega)) (fun i hi => u3 _ (by omega) (by omega))⟩
  have hcs2 := cs_set (by omega) hcs
  have kp := okp_set (by omega) hcs
  have ke := set_eq (p := x + 515) (a := x + 1) (m := 0) (by omega) hx hR
  have ok := fs_ok
  have ce := fs_cells
  have b5 : Q_begin (x + 515) U (x + 515) 5 = nI 0 := by
    simp only [Q_begin, U_restart, lt_eq]
    rw [rr_adv (by omega), rr_u (by omega), u_one, if_neg (by decide), ow_u_s]
  have b6 : Q_begin (x + 515) U (x + 515) 6 = -1 := by
    simp only [Q_begin, U_restart, lt_eq]
    rw [rr_adv (by omega), rr_u (by omega), ow_u_s]
  generalize M_failsAtSetup 0 fs_J = MS at ok ce ke
  rcases ke with ⟨A, C, e1, e2, g1, g2⟩ | ⟨A, C, e1, e2, g⟩
  · rw [e1] at hcs2 kp eA
    rw [e2] at ce
    have kp := kp rfl
    dsimp only at kp hcs2 eA ce
    have rA : ∀ b, x ≤ b → b < x + 666 → b ≠ x + 515 + 1 → I b = A b := fun b z1 z2 z3 => by rw [eA b z1 z2, rr_u z3]
    have rI : ∀ b, x ≤ b → b < x + 666 → (b < x + 1 ∨ (x + 52 ≤ b ∧ b < x + 515) ∨ x + 561 ≤ b) → I b = I0 b := fun b z1 z2 z3 => by
      rw [rA b z1 z2 (by omega), hcs2.1.2.2 b (by omega) (by omega), u3 b (by omega) (by omega)]
    have jm : J m = K0 m := by rw [hJ m (by omega) (by omega), mi_rr (by omega)]
    have jr : ∀ b, m ≤ b → b < m + 8 → b ≠ m + 1 → J b = K0 b := fun b z1 z2 z3 => by rw [hJ b z1 z2, mi_rr z3]
    have jc : ∀ j, j < 366 → J (m + 1) j = C (0 + 1) j := fun j hj => by
      rw [hJ _ (by omega) (by omega), mi_ag K0 fs_J j (by omega)]
      exact (ce ⟨j, hj⟩).symm
    have hst : st (x + 1) m 0 I J := rlv_of (a := x + 1) (f := C (0 + 1)) ⟨g1.1, B_V g1.2.1 g2, g1.2.2⟩ (Nat.le_refl _) (fun b z1 z2 => rA b (by omega) (by omega) (by omega)) jc
    refine ⟨⟨⟨⟨kV_eq hcs2.1.2.1 (fun b z1 z2 => rA b (by omega) (by omega) (by omega)), kV_eq k2 (fun b z1 z2 => rI b (by omega) (by omega) (by omega)), fun i hi => kV_eq (k3 i hi) (fun b z1 z2 => rI b (by omega) (by omega) (by omega)), fun i hi => kV_eq (k4 i hi) (fun b z1 z2 => rI b (by omega) (by omega) (by omega)), ?_, ?_⟩, cm_row hcs2.2 (rA _ (by omega) (by omega) (by omega)) (fun i hi => rA _ (by omega) (by omega) (by omega))⟩, hst, ⟨0, 0, by rw [jm, m1]; rfl, by decide, by rw [jm, m2]; rfl, by decide, ?_, ?_, fun q hq => by omega⟩, fun s hs => ?_, ⟨0, ?_, by rw [jm, m5]; rfl, by decide, fun i hi => by omega⟩, ⟨?_, ?_⟩, fun j hj => by rw [jr _ (by omega) (by omega) (by omega)]; exact mW j hj⟩, by rw [jm, m17]; rfl⟩
    · rw [rI _ (by omega) (by omega) (by omega), o1]
      decide
    · have e := eA (x + 515 + 1) (by omega) (by omega)
      rw [e]
      refine ⟨by rw [ow_u_s]; decide, by rw [u_one, if_neg (by decide)]; exact hcs2.1.1.2.1, by rw [u_one, if_neg (by decide)]; exact hcs2.1.1.2.2⟩
    · rw [rI _ (by omega) (by omega) (by omega), o2]
      rfl
    · rw [rI _ (by omega) (by omega) (by omega), o1]
      rfl
    · rw [rI _ (by omega) (by omega) (by omega), sv, jr _ (by omega) (by omega) (by omega), mS]
      exact ⟨rfl, fun z => absurd rfl z⟩
    · rw [eA _ (by omega) (by omega), ow_u_s]
    · rw [rA _ (by omega) (by omega) (by omega), kp.1, b5, jm, m6]
      rfl
    · rw [rA _ (by omega) (by omega) (by omega), kp.2, b6, jm, m7]
  · rw [e2] at ok
    exact tf_abs ok
end FSU
