theorem rr_ab {u b : Nat} {x : Int32} {I : ow_I} (h : b ≠ u) (h1 : b ≠ u + 1) : U_addByte u x I b = I b := by
  simp only [U_addByte, lt_eq]
  (repeat' split) <;> simp only [rr_u h, rr_u h1]
theorem ab_1 {u : Nat} {x : Int32} {I : ow_I} (h1 : 0 ≤ I u 1) (h1b : tn (I u 1) ≤ 500) : 0 ≤ U_addByte u x I u 1 ∧ tn (U_addByte u x I u 1) ≤ 500 := by
  simp only [U_addByte, lt_eq]
  split
  · exact ⟨h1, h1b⟩
  · rw [ow_u_s, rr_u (by omega), (tn_inc h1 (by omega)).2]
    exact ⟨(tn_inc h1 (by omega)).1, by omega⟩
theorem fr_ab {u k : Nat} {x : Int32} {I : ow_I} (h : k ≠ 1) : U_addByte u x I u k = I u k := by
  simp only [U_addByte, lt_eq]
  split
  · rfl
  · rw [ow_u_k _ _ _ _ h, rr_u (by omega)]
theorem lm_5_53 : ow_lm RX5 53 Lib.Math.min.name Lib.Math.min.code := ⟨ow_T_in 436 (by decide +kernel) (by decide +kernel), ow_T_in 437 (by decide +kernel) (by decide +kernel), ow_T_in 18 (by decide +kernel) (by decide +kernel), ow_T_in 438 (by decide +kernel) (by decide +kernel)⟩
theorem fl_5_29 : ow_fl RX5 29 5 4 := ⟨_, rfl, by decide, ow_T_in 263 (by decide +kernel) (by decide +kernel), ow_ok5⟩
theorem fl_5_36 : ow_fl RX5 36 5 3 := ⟨_, rfl, by decide, ow_T_in 261 (by decide +kernel) (by decide +kernel), ow_ok5⟩
theorem fl_5_46 : ow_fl RX5 46 5 2 := ⟨_, rfl, by decide, ow_T_in 260 (by decide +kernel) (by decide +kernel), ow_ok5⟩
theorem fl_5_49 : ow_fl RX5 49 5 5 := ⟨_, rfl, by decide, ow_T_in 264 (by decide +kernel) (by decide +kernel), ow_ok5⟩
theorem fw_5_2 : ∃ r : vw_C, ow_cl[5]? = some r ∧ (r.2.1 2).2.2.2 = false ∧ parseFieldDescriptor (r.2.1 2).2.2.1 = some .int := ⟨_, rfl, rfl, by decide +kernel⟩
theorem fw_5_3 : ∃ r : vw_C, ow_cl[5]? = some r ∧ (r.2.1 3).2.2.2 = false ∧ parseFieldDescriptor (r.2.1 3).2.2.1 = some .int := ⟨_, rfl, rfl, by decide +kernel⟩
theorem fw_5_4 : ∃ r : vw_C, ow_cl[5]? = some r ∧ (r.2.1 4).2.2.2 = false ∧ parseFieldDescriptor (r.2.1 4).2.2.1 = some .int := ⟨_, rfl, rfl, by decide +kernel⟩
theorem fw_5_5 : ∃ r : vw_C, ow_cl[5]? = some r ∧ (r.2.1 5).2.2.2 = false ∧ parseFieldDescriptor (r.2.1 5).2.2.1 = some .int := ⟨_, rfl, rfl, by decide +kernel⟩
theorem lk_5_15 : ow_lv RX5 15 yX5_addByte cX5_addByte 2 none 1 := ⟨ow_T_in 411 (by decide +kernel) (by decide +kernel), ow_T_in 413 (by decide +kernel) (by decide +kernel), ow_T_sel 0 (by decide +kernel) (by decide +kernel), ow_T_in 8 (by decide +kernel) (by decide +kernel), ow_T_in 414 (by decide +kernel) (by decide +kernel), ⟨by decide +kernel, by decide +kernel, by decide +kernel⟩⟩
theorem lk_5_33 : ow_lv RX5 33 yX5_advance cX5_advance 2 none 0 := ⟨ow_T_in 427 (by decide +kernel) (by decide +kernel), ow_T_in 428 (by decide +kernel) (by decide +kernel), ow_T_in 429 (by decide +kernel) (by decide +kernel), ow_T_in 8 (by decide +kernel) (by decide +kernel), ow_T_in 430 (by decide +kernel) (by decide +kernel), ⟨by decide +kernel, by decide +kernel, by decide +kernel⟩⟩
theorem lk_5_42 : ow_lv RX5 42 yX5_kindAt cX5_kindAt 3 (some .int) 1 := ⟨ow_T_in 431 (by decide +kernel) (by decide +kernel), ow_T_in 433 (by decide +kernel) (by decide +kernel), ow_T_sel 2 (by decide +kernel) (by decide +kernel), ow_T_in 8 (by decide +kernel) (by decide +kernel), ow_T_in 434 (by decide +kernel) (by decide +kernel), ⟨by decide +kernel, by decide +kernel, by decide +kernel⟩⟩
theorem wd_435 : Cond.constant RX5 52 (nI 1000000) ∈ ow_T := ow_T_in 435 (by decide +kernel) (by decide +kernel)
def U_addFour_L3 (u : Nat) (w : Int32) : Nat → ow_I → Int32 → ow_I
  | 0, I, _ => I
  | n + 1, I, s => if s < 0 then I else lt (U_addByte u (((w.toUInt32 >>> (s.toUInt32 &&& Int32.toUInt32 31)).toInt32) &&& (nI 255)) I) (fun (I1 : ow_I) => U_addFour_L3 u w n I1 (s + Int32.ofInt (-8)))
def U_addFour (u : Nat) (w : Int32) (I : ow_I) : ow_I :=
  U_addFour_L3 u w 5 I (nI 24)
set_option maxRecDepth 100000 in
set_option maxHeartbeats 400000 in
theorem cU_addFour {S : Nat → Option ow_Sh} {I : ow_I} {V : Nat → Nat → Value} {z : Nat} {u : Nat} {w : Int32} (h_u : in_S S u) (h1 : 0 ≤ I u 1) (h1b : tn (I u 1) ≤ 500) : ow_Cf yX5_addFour cX5_addFour 3 none 1 [.ref u, .int w] (S, I, V, z) none (S, U_addFour u w I, V, z) := by
  refine ow_Cf.of rfl (Nat.le_of_ble_eq_true rfl) (fun X K E F hk => ?_)
  have E : ow_E X RX5 cX5_addFour 3 (ow_rm 1 0 0) := E
  refine or_lv [(0, .ref u), (1, .int w)] rfl ?_
  have L3 : ∀ (n : Nat) (I : ow_I) (s : Int32) (c : Nat) (hs : s = nI (8 * c) - 8) (hc : c ≤ 4) (h1 : 0 ≤ I u 1) (h1b : tn (I u 1) ≤ 500) (hm : c < n) (hk : K none (S, U_addFour_L3 u w n I s, V, z)), ow_W X 0 0 (S, I, V, z) 3 [(0, .ref u), (1, .int w), (2, .int s)] [] := by
    intro n
    induction n with
    | zero => intro I s c hs hc h1 h1b hm; omega
    | succ n ih =>
      intro I s c hs hc h1 h1b hm hk
      dsimp only [U_addFour_L3] at hk
      refine or_iload_n E rfl dX5_addFour_3 ?_
      refine or_if_lt 24 E dX5_addFour_4 rfl (fun q4 => ?_) (fun q4 => ?_)
      · replace hk := ite_p (P := fun r : ow_I => K none (S, r, V, z)) q4 hk
        exact or_vret E F dX5_addFour_24 (Nat.le_refl _) (Nat.le_refl _) hk
      · replace hk := ite_n (P := fun r : ow_I => K none (S, r, V, z)) q4 hk
        refine or_aload_n E rfl dX5_addFour_7 ?_
        refine or_iload_n E rfl dX5_addFour_8 ?_
        refine or_iload_n E rfl dX5_addFour_9 ?_
        refine or_iushr E dX5_addFour_10 ?_
        refine or_sipush (v := nI 255) E rfl dX5_addFour_11 ?_
        refine or_iand E dX5_addFour_14 ?_
        refine or_cV1v (cU_addByte  h_u h1 h1b) E lk_5_15 dX5_addFour_15 h_u.1 rfl rfl (by decide) (by decide) ⟨Nat.le_refl _, Nat.le_refl _⟩ (Nat.le_of_ble_eq_true rfl) ?_
        obtain ⟨I1, hI1⟩ : ∃ y_ : ow_I, y_ = U_addByte u (((w.toUInt32 >>> (s.toUInt32 &&& Int32.toUInt32 31)).toInt32) &&& (nI 255)) I := ⟨_, rfl⟩
        replace hk := lt_k (P := fun r : ow_I => K none (S, r, V, z)) hI1 hk
        refine or_nmI hI1 ?_
        refine or_iinc E dX5_addFour_18 rfl (by decide) ?_
        refine or_goto 3 E dX5_addFour_21 rfl ?_
        refine or_lv _ ?_ (ih _ _ (c - 1) (by subst hI1; rw [hs]; exact sh8 (sh8_c hs q4)) (by subst hI1; omega) (by subst hI1; exact (ab_1 h1 h1b).1) (by subst hI1; exact (ab_1 h1 h1b).2) (by subst hI1; have := sh8_c hs q4; omega) hk)
        rfl
  dsimp only [U_addFour] at hk
  refine or_bipush (v := nI 24) E rfl dX5_addFour_0 ?_
  refine or_istore_n E dX5_addFour_2 (by decide) ?_
  refine or_lv _ ?_ (L3 5 _ _ 4 rfl (by decide) h1 h1b (by decide) hk)
  rfl
def U_advance_L93 (u : Nat) : Nat → ow_I → Nat → ow_I
  | 0, I, _ => I
  | n + 1, I, r => if tn (I u 1) ≤ tn (I u 4) then I else if U_kindAt u (I u 4) I = I u 2 then if r = 0 then if I u 4 = I u 3 then if I u 2 = nI 2 then lt (ow_u I u 5 (i_min ((I u 5) * (nI 10) + (I (u + 1) (tn (I u 4)) - (nI 48))) (nI 1000000))) (fun (I9 : ow_I) => lt (ow_u I9 u 4 (I9 u 4 + (nI 1))) (fun (I10 : ow_I) => U_advance_L93 u n I10 r)) else lt (ow_u I u 4 (I u 4 + (nI 1))) (fun (I8 : ow_I) => U_advance_L93 u n I8 r) else I else if I u 2 = nI 2 then lt (ow_u I u 5 (i_min ((I u 5) * (nI 10) + (I (u + 1) (tn (I u 4)) - (nI 48))) (nI 1000000))) (fun (I6 : ow_I) => lt (ow_u I6 u 4 (I6 u 4 + (nI 1))) (fun (I7 : ow_I) => U_advance_L93 u n I7 r)) else lt (ow_u I u 4 (I u 4 + (nI 1))) (fun (I5 : ow_I) => U_advance_L93 u n I5 r) else I
def U_advance_L8 (u : Nat) : Nat → ow_I → ow_I
  | 0, I => I
  | n + 1, I => if tn (I u 1) ≤ tn (I u 3) then lt (ow_u I u 4 (I u 3)) (fun (I2 : ow_I) => lt (ow_u I2 u 2 (U_kindAt u (I2 u 3) I2)) (fun (I3 : ow_I) => lt (ow_u I3 u 5 (nI 0)) (fun (I4 : ow_I) => if I4 u 2 = nI 1 then U_advance_L93 u 501 I4 1 else if I4 u 2 = nI 2 then U_advance_L93 u 501 I4 1 else U_advance_L93 u 501 I4 0))) else if I (u + 1) (tn (I u 3)) = nI 32 then lt (ow_u I u 3 (I u 3 + (nI 1))) (fun (I14 : ow_I) => U_advance_L8 u n I14 ) else lt (ow_u I u 4 (I u 3)) (fun (I11 : ow_I) => lt (ow_u I11 u 2 (U_kindAt u (I11 u 3) I11)) (fun (I12 : ow_I) => lt (ow_u I12 u 5 (nI 0)) (fun (I13 : ow_I) => if I13 u 2 = nI 1 then U_advance_L93 u 501 I13 1 else if I13 u 2 = nI 2 then U_advance_L93 u 501 I13 1 else U_advance_L93 u 501 I13 0)))
def U_advance (u : Nat) (I : ow_I) : ow_I :=
  lt (ow_u I u 3 (I u 4)) (fun (I1 : ow_I) => U_advance_L8 u 501 I1 )
set_option maxRecDepth 100000 in
set_option maxHeartbeats 400000 in
theorem cU_advance {S : Nat → Option ow_Sh} {I : ow_I} {V : Nat → Nat → Value} {z : Nat} {u : Nat} (h_u : in_S S u) (h1 : 0 ≤ I u 1) (h1b : tn (I u 1) ≤ 500) (h4 : 0 ≤ I u 4) (h4b : tn (I u 4) ≤ 500) : ow_Cf yX5_advance cX5_advance 2 none 1 [.ref u] (S, I, V, z) none (S, U_advance u I, V, z) := by
  refine ow_Cf.of rfl (Nat.le_of_ble_eq_true rfl) (fun X K E F hk => ?_)
  have E : ow_E X RX5 cX5_advance 2 (ow_rm 1 0 0) := E
  refine or_lv [(0, .ref u)] rfl ?_
  have L93 : ∀ (n : Nat) (I : ow_I) (r : Nat) (h1 : 0 ≤ I u 1) (h1b : tn (I u 1) ≤ 500) (h4 : 0 ≤ I u 4) (h4b : tn (I u 4) ≤ 500) (hr : r ≤ 1) (hm : 500 - tn (I u 4) < n) (hk : K none (S, U_advance_L93 u n I r, V, z)), ow_W X 0 0 (S, I, V, z) 93 [(0, .ref u), (1, .int (nI r))] [] := by
    intro n
    induction n with
    | zero => intro I r h1 h1b h4 h4b hr hm; omega
    | succ n ih =>
      intro I r h1 h1b h4 h4b hr hm hk
      dsimp only [U_advance_L93] at hk
      refine or_aload_n E rfl dX5_advance_93 ?_
      refine ot_getI E fl_5_29 dX5_advance_94 h_u.1 rfl ?_
      refine or_top (nI_tn h4).symm ?_
      refine or_aload_n E rfl dX5_advance_97 ?_
      refine ot_getI E fl_5_39 dX5_advance_98 h_u.1 rfl ?_
      refine or_top (nI_tn h1).symm ?_
      refine or_icmp_geN 184 E dX5_advance_101 rfl (by omega) (by omega) (fun q101 => ?_) (fun q101 => ?_)
      · replace hk := ite_p (P := fun r : ow_I => K none (S, r, V, z)) q101 hk
        exact or_vret E F dX5_advance_184 (Nat.le_refl _) (Nat.le_refl _) hk
      · replace hk := ite_n (P := fun r : ow_I => K none (S, r, V, z)) q101 hk
        refine or_aload_n E rfl dX5_advance_104 ?_
        refine or_aload_n E rfl dX5_advance_105 ?_
        refine ot_getI E fl_5_29 dX5_advance_106 h_u.1 rfl ?_
        refine or_cV1r (cU_kindAt  h_u h1 h1b) E lk_5_42 dX5_advance_109 h_u.1 rfl rfl (by decide) (by decide) ⟨Nat.le_refl _, Nat.le_refl _⟩ (Nat.le_of_ble_eq_true rfl) ?_
        refine or_aload_n E rfl dX5_advance_112 ?_
        refine ot_getI E fl_5_46 dX5_advance_113 h_u.1 rfl ?_
        refine or_icmp_ne 184 E dX5_advance_116 rfl (fun q116 => ?_) (fun q116 => ?_)
        · replace hk := ite_n (P := fun r : ow_I => K none (S, r, V, z)) q116 hk
          exact or_vret E F dX5_advance_184 (Nat.le_refl _) (Nat.le_refl _) hk
        · replace hk := ite_p (P := fun r : ow_I => K none (S, r, V, z)) q116 hk
          refine or_iload_n E rfl dX5_advance_119 ?_
          refine or_if_neN 134 E dX5_advance_120 rfl (by omega) (fun q120 => ?_) (fun q120 => ?_)
          · replace hk := ite_n (P := fun r : ow_I => K none (S, r, V, z)) q120 hk
            refine or_aload_n E rfl dX5_advance_134 ?_
            refine ot_getI E fl_5_46 dX5_advance_135 h_u.1 rfl ?_
            refine or_iconst (v := nI 2) E rfl dX5_advance_138 ?_
            refine or_icmp_ne 171 E dX5_advance_139 rfl (fun q139 => ?_) (fun q139 => ?_)
            · replace hk := ite_n (P := fun r : ow_I => K none (S, r, V, z)) q139 hk
              refine or_aload_n E rfl dX5_advance_171 ?_
              refine or_dup E rfl dX5_advance_172 ?_
              refine ot_getI E fl_5_29 dX5_advance_173 h_u.1 rfl ?_
              refine or_iconst (v := nI 1) E rfl dX5_advance_176 ?_
              refine or_iadd E dX5_advance_177 ?_
              refine ot_putI E fl_5_29 fw_5_4 dX5_advance_178 h_u.1 rfl ?_
              obtain ⟨I5, hI5⟩ : ∃ y_ : ow_I, y_ = ow_u I u 4 (I u 4 + (nI 1)) := ⟨_, rfl⟩
              replace hk := lt_k (P := fun r : ow_I => K none (S, r, V, z)) hI5 hk
              refine or_nmI hI5 ?_
              refine or_goto 93 E dX5_advance_181 rfl ?_
              refine or_lv _ ?_ (ih _ _ (by subst hI5; simp (disch := decide) only [ow_u_k, ow_u_s]; exact h1) (by subst hI5; simp (disch := decide) only [ow_u_k, ow_u_s]; exact h1b) (by subst hI5; simp (disch := decide) only [ow_u_k, ow_u_s]; exact (tn_inc h4 (by omega)).1) (by subst hI5; simp (disch := decide) only [ow_u_k, ow_u_s]; rw [(tn_inc h4 (by omega)).2]; omega) (by subst hI5; exact hr) (by subst hI5; simp (disch := decide) only [ow_u_k, ow_u_s]; rw [(tn_inc h4 (by omega)).2]; omega) hk)
              rfl
            · replace hk := ite_p (P := fun r : ow_I => K none (S, r, V, z)) q139 hk
              refine or_aload_n E rfl dX5_advance_142 ?_
              refine or_aload_n E rfl dX5_advance_143 ?_
              refine ot_getI E fl_5_49 dX5_advance_144 h_u.1 rfl ?_
              refine or_bipush (v := nI 10) E rfl dX5_advance_147 ?_
              refine or_imul E dX5_advance_149 ?_
              refine or_aload_n E rfl dX5_advance_150 ?_
              refine ot_getC E fl_5_9 dX5_advance_151 h_u.1 rfl ?_
              refine or_aload_n E rfl dX5_advance_154 ?_
              refine ot_getI E fl_5_29 dX5_advance_155 h_u.1 rfl ?_
              refine or_top (nI_tn h4).symm ?_
              refine ot_iald (j := tn (I u 4)) E dX5_advance_158 h_u.2 rfl rfl (by omega) (Nat.le_of_ble_eq_true rfl) ?_
              refine or_bipush (v := nI 48) E rfl dX5_advance_159 ?_
              refine or_isub E dX5_advance_161 ?_
              refine or_iadd E dX5_advance_162 ?_
              refine or_ldc (v := nI 1000000) E wd_435 dX5_advance_163 ?_
              refine or_mmin E lm_5_53 dX5_advance_165 (Nat.le_of_ble_eq_true rfl) ⟨Nat.le_refl _, Nat.le_refl _⟩ (Nat.le_of_ble_eq_true rfl) ?_
              refine ot_putI E fl_5_49 fw_5_5 dX5_advance_168 h_u.1 rfl ?_
              obtain ⟨I6, hI6⟩ : ∃ y_ : ow_I, y_ = ow_u I u 5 (i_min ((I u 5) * (nI 10) + (I (u + 1) (tn (I u 4)) - (nI 48))) (nI 1000000)) := ⟨_, rfl⟩
              replace hk := lt_k (P := fun r : ow_I => K none (S, r, V, z)) hI6 hk
              refine or_nmI hI6 ?_
              refine or_aload_n E rfl dX5_advance_171 ?_
              refine or_dup E rfl dX5_advance_172 ?_
              refine ot_getI E fl_5_29 dX5_advance_173 h_u.1 rfl ?_
              refine or_iconst (v := nI 1) E rfl dX5_advance_176 ?_
              refine or_iadd E dX5_advance_177 ?_
              refine ot_putI E fl_5_29 fw_5_4 dX5_advance_178 h_u.1 rfl ?_
              obtain ⟨I7, hI7⟩ : ∃ y_ : ow_I, y_ = ow_u I6 u 4 (I6 u 4 + (nI 1)) := ⟨_, rfl⟩
              replace hk := lt_k (P := fun r : ow_I => K none (S, r, V, z)) hI7 hk
              refine or_nmI hI7 ?_
              refine or_goto 93 E dX5_advance_181 rfl ?_
              refine or_lv _ ?_ (ih _ _ (by subst hI7 hI6; simp (disch := decide) only [ow_u_k, ow_u_s]; exact h1) (by subst hI7 hI6; simp (disch := decide) only [ow_u_k, ow_u_s]; exact h1b) (by subst hI7 hI6; simp (disch := decide) only [ow_u_k, ow_u_s]; exact (tn_inc h4 (by omega)).1) (by subst hI7 hI6; simp (disch := decide) only [ow_u_k, ow_u_s]; rw [(tn_inc h4 (by omega)).2]; omega) (by subst hI7 hI6; exact hr) (by subst hI7 hI6; simp (disch := decide) only [ow_u_k, ow_u_s]; rw [(tn_inc h4 (by omega)).2]; omega) hk)
              rfl
          · replace hk := ite_p (P := fun r : ow_I => K none (S, r, V, z)) q120 hk
            refine or_aload_n E rfl dX5_advance_123 ?_
            refine ot_getI E fl_5_29 dX5_advance_124 h_u.1 rfl ?_
            refine or_aload_n E rfl dX5_advance_127 ?_
            refine ot_getI E fl_5_36 dX5_advance_128 h_u.1 rfl ?_
            refine or_icmp_ne 184 E dX5_advance_131 rfl (fun q131 => ?_) (fun q131 => ?_)
            · replace hk := ite_n (P := fun r : ow_I => K none (S, r, V, z)) q131 hk
              exact or_vret E F dX5_advance_184 (Nat.le_refl _) (Nat.le_refl _) hk
            · replace hk := ite_p (P := fun r : ow_I => K none (S, r, V, z)) q131 hk
              refine or_aload_n E rfl dX5_advance_134 ?_
              refine ot_getI E fl_5_46 dX5_advance_135 h_u.1 rfl ?_
              refine or_iconst (v := nI 2) E rfl dX5_advance_138 ?_
              refine or_icmp_ne 171 E dX5_advance_139 rfl (fun q139 => ?_) (fun q139 => ?_)
              · replace hk := ite_n (P := fun r : ow_I => K none (S, r, V, z)) q139 hk
                refine or_aload_n E rfl dX5_advance_171 ?_
                refine or_dup E rfl dX5_advance_172 ?_
                refine ot_getI E fl_5_29 dX5_advance_173 h_u.1 rfl ?_
                refine or_iconst (v := nI 1) E rfl dX5_advance_176 ?_
                refine or_iadd E dX5_advance_177 ?_
                refine ot_putI E fl_5_29 fw_5_4 dX5_advance_178 h_u.1 rfl ?_
                obtain ⟨I8, hI8⟩ : ∃ y_ : ow_I, y_ = ow_u I u 4 (I u 4 + (nI 1)) := ⟨_, rfl⟩
                replace hk := lt_k (P := fun r : ow_I => K none (S, r, V, z)) hI8 hk
                refine or_nmI hI8 ?_
                refine or_goto 93 E dX5_advance_181 rfl ?_
                refine or_lv _ ?_ (ih _ _ (by subst hI8; simp (disch := decide) only [ow_u_k, ow_u_s]; exact h1) (by subst hI8; simp (disch := decide) only [ow_u_k, ow_u_s]; exact h1b) (by subst hI8; simp (disch := decide) only [ow_u_k, ow_u_s]; exact (tn_inc h4 (by omega)).1) (by subst hI8; simp (disch := decide) only [ow_u_k, ow_u_s]; rw [(tn_inc h4 (by omega)).2]; omega) (by subst hI8; exact hr) (by subst hI8; simp (disch := decide) only [ow_u_k, ow_u_s]; rw [(tn_inc h4 (by omega)).2]; omega) hk)
                rfl
              · replace hk := ite_p (P := fun r : ow_I => K none (S, r, V, z)) q139 hk
                refine or_aload_n E rfl dX5_advance_142 ?_
                refine or_aload_n E rfl dX5_advance_143 ?_
                refine ot_getI E fl_5_49 dX5_advance_144 h_u.1 rfl ?_
                refine or_bipush (v := nI 10) E rfl dX5_advance_147 ?_
                refine or_imul E dX5_advance_149 ?_
                refine or_aload_n E rfl dX5_advance_150 ?_
                refine ot_getC E fl_5_9 dX5_advance_151 h_u.1 rfl ?_
                refine or_aload_n E rfl dX5_advance_154 ?_
                refine ot_getI E fl_5_29 dX5_advance_155 h_u.1 rfl ?_
                refine or_top (nI_tn h4).symm ?_
                refine ot_iald (j := tn (I u 4)) E dX5_advance_158 h_u.2 rfl rfl (by omega) (Nat.le_of_ble_eq_true rfl) ?_
                refine or_bipush (v := nI 48) E rfl dX5_advance_159 ?_
                refine or_isub E dX5_advance_161 ?_
                refine or_iadd E dX5_advance_162 ?_
                refine or_ldc (v := nI 1000000) E wd_435 dX5_advance_163 ?_
                refine or_mmin E lm_5_53 dX5_advance_165 (Nat.le_of_ble_eq_true rfl) ⟨Nat.le_refl _, Nat.le_refl _⟩ (Nat.le_of_ble_eq_true rfl) ?_
                refine ot_putI E fl_5_49 fw_5_5 dX5_advance_168 h_u.1 rfl ?_
                obtain ⟨I9, hI9⟩ : ∃ y_ : ow_I, y_ = ow_u I u 5 (i_min ((I u 5) * (nI 10) + (I (u + 1) (tn (I u 4)) - (nI 48))) (nI 1000000)) := ⟨_, rfl⟩
                replace hk := lt_k (P := fun r : ow_I => K none (S, r, V, z)) hI9 hk
                refine or_nmI hI9 ?_
                refine or_aload_n E rfl dX5_advance_171 ?_
                refine or_dup E rfl dX5_advance_172 ?_
                refine ot_getI E fl_5_29 dX5_advance_173 h_u.1 rfl ?_
                refine or_iconst (v := nI 1) E rfl dX5_advance_176 ?_
                refine or_iadd E dX5_advance_177 ?_
                refine ot_putI E fl_5_29 fw_5_4 dX5_advance_178 h_u.1 rfl ?_
                obtain ⟨I10, hI10⟩ : ∃ y_ : ow_I, y_ = ow_u I9 u 4 (I9 u 4 + (nI 1)) := ⟨_, rfl⟩
                replace hk := lt_k (P := fun r : ow_I => K none (S, r, V, z)) hI10 hk
                refine or_nmI hI10 ?_
                refine or_goto 93 E dX5_advance_181 rfl ?_
                refine or_lv _ ?_ (ih _ _ (by subst hI10 hI9; simp (disch := decide) only [ow_u_k, ow_u_s]; exact h1) (by subst hI10 hI9; simp (disch := decide) only [ow_u_k, ow_u_s]; exact h1b) (by subst hI10 hI9; simp (disch := decide) only [ow_u_k, ow_u_s]; exact (tn_inc h4 (by omega)).1) (by subst hI10 hI9; simp (disch := decide) only [ow_u_k, ow_u_s]; rw [(tn_inc h4 (by omega)).2]; omega) (by subst hI10 hI9; exact hr) (by subst hI10 hI9; simp (disch := decide) only [ow_u_k, ow_u_s]; rw [(tn_inc h4 (by omega)).2]; omega) hk)
                rfl
  have L8 : ∀ (n : Nat) (I : ow_I)  (h1 : 0 ≤ I u 1) (h1b : tn (I u 1) ≤ 500) (h3 : 0 ≤ I u 3) (h3b : tn (I u 3) ≤ 500) (hm : 500 - tn (I u 3) < n) (hk : K none (S, U_advance_L8 u n I , V, z)), ow_W X 0 0 (S, I, V, z) 8 [(0, .ref u)] [] := by
    intro n
    induction n with
    | zero => intro I  h1 h1b h3 h3b hm; omega
    | succ n ih =>
      intro I  h1 h1b h3 h3b hm hk
      dsimp only [U_advance_L8] at hk
      refine or_aload_n E rfl dX5_advance_8 ?_
      refine ot_getI E fl_5_36 dX5_advance_9 h_u.1 rfl ?_
      refine or_top (nI_tn h3).symm ?_
      refine or_aload_n E rfl dX5_advance_12 ?_
      refine ot_getI E fl_5_39 dX5_advance_13 h_u.1 rfl ?_
      refine or_top (nI_tn h1).symm ?_
      refine or_icmp_geN 46 E dX5_advance_16 rfl (by omega) (by omega) (fun q16 => ?_) (fun q16 => ?_)
      · replace hk := ite_p (P := fun r : ow_I => K none (S, r, V, z)) q16 hk
        refine or_aload_n E rfl dX5_advance_46 ?_
        refine or_aload_n E rfl dX5_advance_47 ?_
        refine ot_getI E fl_5_36 dX5_advance_48 h_u.1 rfl ?_
        refine ot_putI E fl_5_29 fw_5_4 dX5_advance_51 h_u.1 rfl ?_
        obtain ⟨I2, hI2⟩ : ∃ y_ : ow_I, y_ = ow_u I u 4 (I u 3) := ⟨_, rfl⟩
        replace hk := lt_k (P := fun r : ow_I => K none (S, r, V, z)) hI2 hk
        refine or_nmI hI2 ?_
        refine or_aload_n E rfl dX5_advance_54 ?_
        refine or_aload_n E rfl dX5_advance_55 ?_
        refine or_aload_n E rfl dX5_advance_56 ?_
        refine ot_getI E fl_5_36 dX5_advance_57 h_u.1 rfl ?_
        refine or_cV1r (cU_kindAt  h_u (by subst hI2; simp (disch := decide) only [ow_u_k, ow_u_s]; exact h1) (by subst hI2; simp (disch := decide) only [ow_u_k, ow_u_s]; exact h1b)) E lk_5_42 dX5_advance_60 h_u.1 rfl rfl (by decide) (by decide) ⟨Nat.le_refl _, Nat.le_refl _⟩ (Nat.le_of_ble_eq_true rfl) ?_
        refine ot_putI E fl_5_46 fw_5_2 dX5_advance_63 h_u.1 rfl ?_
        obtain ⟨I3, hI3⟩ : ∃ y_ : ow_I, y_ = ow_u I2 u 2 (U_kindAt u (I2 u 3) I2) := ⟨_, rfl⟩
        replace hk := lt_k (P := fun r : ow_I => K none (S, r, V, z)) hI3 hk
        refine or_nmI hI3 ?_
        refine or_aload_n E rfl dX5_advance_66 ?_
        refine or_iconst (v := nI 0) E rfl dX5_advance_67 ?_
        refine ot_putI E fl_5_49 fw_5_5 dX5_advance_68 h_u.1 rfl ?_
        obtain ⟨I4, hI4⟩ : ∃ y_ : ow_I, y_ = ow_u I3 u 5 (nI 0) := ⟨_, rfl⟩
        replace hk := lt_k (P := fun r : ow_I => K none (S, r, V, z)) hI4 hk
        refine or_nmI hI4 ?_
        refine or_aload_n E rfl dX5_advance_71 ?_
        refine ot_getI E fl_5_46 dX5_advance_72 h_u.1 rfl ?_
        refine or_iconst (v := nI 1) E rfl dX5_advance_75 ?_
        refine or_icmp_eq 87 E dX5_advance_76 rfl (fun q76 => ?_) (fun q76 => ?_)
        · replace hk := ite_p (P := fun r : ow_I => K none (S, r, V, z)) q76 hk
          refine or_iconst (v := nI 1) E rfl dX5_advance_87 ?_
          refine or_goto 92 E dX5_advance_88 rfl ?_
          refine or_istore_n E dX5_advance_92 (by decide) ?_
          refine or_lv _ ?_ (L93 501 _ _ (by subst hI4 hI3 hI2; simp (disch := decide) only [ow_u_k, ow_u_s]; exact h1) (by subst hI4 hI3 hI2; simp (disch := decide) only [ow_u_k, ow_u_s]; exact h1b) (by subst hI4 hI3 hI2; simp (disch := decide) only [ow_u_k, ow_u_s]; exact h3) (by subst hI4 hI3 hI2; simp (disch := decide) only [ow_u_k, ow_u_s]; exact h3b) (by decide) (by omega) hk)
          rfl
        · replace hk := ite_n (P := fun r : ow_I => K none (S, r, V, z)) q76 hk
          refine or_aload_n E rfl dX5_advance_79 ?_
          refine ot_getI E fl_5_46 dX5_advance_80 h_u.1 rfl ?_
          refine or_iconst (v := nI 2) E rfl dX5_advance_83 ?_
          refine or_icmp_ne 91 E dX5_advance_84 rfl (fun q84 => ?_) (fun q84 => ?_)
          · replace hk := ite_n (P := fun r : ow_I => K none (S, r, V, z)) q84 hk
            refine or_iconst (v := nI 0) E rfl dX5_advance_91 ?_
            refine or_istore_n E dX5_advance_92 (by decide) ?_
            refine or_lv _ ?_ (L93 501 _ _ (by subst hI4 hI3 hI2; simp (disch := decide) only [ow_u_k, ow_u_s]; exact h1) (by subst hI4 hI3 hI2; simp (disch := decide) only [ow_u_k, ow_u_s]; exact h1b) (by subst hI4 hI3 hI2; simp (disch := decide) only [ow_u_k, ow_u_s]; exact h3) (by subst hI4 hI3 hI2; simp (disch := decide) only [ow_u_k, ow_u_s]; exact h3b) (by decide) (by omega) hk)
            rfl
          · replace hk := ite_p (P := fun r : ow_I => K none (S, r, V, z)) q84 hk
            refine or_iconst (v := nI 1) E rfl dX5_advance_87 ?_
            refine or_goto 92 E dX5_advance_88 rfl ?_
            refine or_istore_n E dX5_advance_92 (by decide) ?_
            refine or_lv _ ?_ (L93 501 _ _ (by subst hI4 hI3 hI2; simp (disch := decide) only [ow_u_k, ow_u_s]; exact h1) (by subst hI4 hI3 hI2; simp (disch := decide) only [ow_u_k, ow_u_s]; exact h1b) (by subst hI4 hI3 hI2; simp (disch := decide) only [ow_u_k, ow_u_s]; exact h3) (by subst hI4 hI3 hI2; simp (disch := decide) only [ow_u_k, ow_u_s]; exact h3b) (by decide) (by omega) hk)
            rfl
      · replace hk := ite_n (P := fun r : ow_I => K none (S, r, V, z)) q16 hk
        refine or_aload_n E rfl dX5_advance_19 ?_
        refine ot_getC E fl_5_9 dX5_advance_20 h_u.1 rfl ?_
        refine or_aload_n E rfl dX5_advance_23 ?_
        refine ot_getI E fl_5_36 dX5_advance_24 h_u.1 rfl ?_
        refine or_top (nI_tn h3).symm ?_
        refine ot_iald (j := tn (I u 3)) E dX5_advance_27 h_u.2 rfl rfl (by omega) (Nat.le_of_ble_eq_true rfl) ?_
        refine or_bipush (v := nI 32) E rfl dX5_advance_28 ?_
        refine or_icmp_ne 46 E dX5_advance_30 rfl (fun q30 => ?_) (fun q30 => ?_)
        · replace hk := ite_n (P := fun r : ow_I => K none (S, r, V, z)) q30 hk
          refine or_aload_n E rfl dX5_advance_46 ?_
          refine or_aload_n E rfl dX5_advance_47 ?_
          refine ot_getI E fl_5_36 dX5_advance_48 h_u.1 rfl ?_
          refine ot_putI E fl_5_29 fw_5_4 dX5_advance_51 h_u.1 rfl ?_
          obtain ⟨I11, hI11⟩ : ∃ y_ : ow_I, y_ = ow_u I u 4 (I u 3) := ⟨_, rfl⟩
          replace hk := lt_k (P := fun r : ow_I => K none (S, r, V, z)) hI11 hk
          refine or_nmI hI11 ?_
          refine or_aload_n E rfl dX5_advance_54 ?_
          refine or_aload_n E rfl dX5_advance_55 ?_
          refine or_aload_n E rfl dX5_advance_56 ?_
          refine ot_getI E fl_5_36 dX5_advance_57 h_u.1 rfl ?_
          refine or_cV1r (cU_kindAt  h_u (by subst hI11; simp (disch := decide) only [ow_u_k, ow_u_s]; exact h1) (by subst hI11; simp (disch := decide) only [ow_u_k, ow_u_s]; exact h1b)) E lk_5_42 dX5_advance_60 h_u.1 rfl rfl (by decide) (by decide) ⟨Nat.le_refl _, Nat.le_refl _⟩ (Nat.le_of_ble_eq_true rfl) ?_
          refine ot_putI E fl_5_46 fw_5_2 dX5_advance_63 h_u.1 rfl ?_
          obtain ⟨I12, hI12⟩ : ∃ y_ : ow_I, y_ = ow_u I11 u 2 (U_kindAt u (I11 u 3) I11) := ⟨_, rfl⟩
          replace hk := lt_k (P := fun r : ow_I => K none (S, r, V, z)) hI12 hk
          refine or_nmI hI12 ?_
          refine or_aload_n E rfl dX5_advance_66 ?_
          refine or_iconst (v := nI 0) E rfl dX5_advance_67 ?_
          refine ot_putI E fl_5_49 fw_5_5 dX5_advance_68 h_u.1 rfl ?_
          obtain ⟨I13, hI13⟩ : ∃ y_ : ow_I, y_ = ow_u I12 u 5 (nI 0) := ⟨_, rfl⟩
          replace hk := lt_k (P := fun r : ow_I => K none (S, r, V, z)) hI13 hk
          refine or_nmI hI13 ?_
          refine or_aload_n E rfl dX5_advance_71 ?_
          refine ot_getI E fl_5_46 dX5_advance_72 h_u.1 rfl ?_
          refine or_iconst (v := nI 1) E rfl dX5_advance_75 ?_
          refine or_icmp_eq 87 E dX5_advance_76 rfl (fun q76 => ?_) (fun q76 => ?_)
          · replace hk := ite_p (P := fun r : ow_I => K none (S, r, V, z)) q76 hk
            refine or_iconst (v := nI 1) E rfl dX5_advance_87 ?_
            refine or_goto 92 E dX5_advance_88 rfl ?_
            refine or_istore_n E dX5_advance_92 (by decide) ?_
            refine or_lv _ ?_ (L93 501 _ _ (by subst hI13 hI12 hI11; simp (disch := decide) only [ow_u_k, ow_u_s]; exact h1) (by subst hI13 hI12 hI11; simp (disch := decide) only [ow_u_k, ow_u_s]; exact h1b) (by subst hI13 hI12 hI11; simp (disch := decide) only [ow_u_k, ow_u_s]; exact h3) (by subst hI13 hI12 hI11; simp (disch := decide) only [ow_u_k, ow_u_s]; exact h3b) (by decide) (by omega) hk)
            rfl
          · replace hk := ite_n (P := fun r : ow_I => K none (S, r, V, z)) q76 hk
            refine or_aload_n E rfl dX5_advance_79 ?_
            refine ot_getI E fl_5_46 dX5_advance_80 h_u.1 rfl ?_
            refine or_iconst (v := nI 2) E rfl dX5_advance_83 ?_
            refine or_icmp_ne 91 E dX5_advance_84 rfl (fun q84 => ?_) (fun q84 => ?_)
            · replace hk := ite_n (P := fun r : ow_I => K none (S, r, V, z)) q84 hk
              refine or_iconst (v := nI 0) E rfl dX5_advance_91 ?_
              refine or_istore_n E dX5_advance_92 (by decide) ?_
              refine or_lv _ ?_ (L93 501 _ _ (by subst hI13 hI12 hI11; simp (disch := decide) only [ow_u_k, ow_u_s]; exact h1) (by subst hI13 hI12 hI11; simp (disch := decide) only [ow_u_k, ow_u_s]; exact h1b) (by subst hI13 hI12 hI11; simp (disch := decide) only [ow_u_k, ow_u_s]; exact h3) (by subst hI13 hI12 hI11; simp (disch := decide) only [ow_u_k, ow_u_s]; exact h3b) (by decide) (by omega) hk)
              rfl
            · replace hk := ite_p (P := fun r : ow_I => K none (S, r, V, z)) q84 hk
              refine or_iconst (v := nI 1) E rfl dX5_advance_87 ?_
              refine or_goto 92 E dX5_advance_88 rfl ?_
              refine or_istore_n E dX5_advance_92 (by decide) ?_
              refine or_lv _ ?_ (L93 501 _ _ (by subst hI13 hI12 hI11; simp (disch := decide) only [ow_u_k, ow_u_s]; exact h1) (by subst hI13 hI12 hI11; simp (disch := decide) only [ow_u_k, ow_u_s]; exact h1b) (by subst hI13 hI12 hI11; simp (disch := decide) only [ow_u_k, ow_u_s]; exact h3) (by subst hI13 hI12 hI11; simp (disch := decide) only [ow_u_k, ow_u_s]; exact h3b) (by decide) (by omega) hk)
              rfl
        · replace hk := ite_p (P := fun r : ow_I => K none (S, r, V, z)) q30 hk
          refine or_aload_n E rfl dX5_advance_33 ?_
          refine or_dup E rfl dX5_advance_34 ?_
          refine ot_getI E fl_5_36 dX5_advance_35 h_u.1 rfl ?_
          refine or_iconst (v := nI 1) E rfl dX5_advance_38 ?_
          refine or_iadd E dX5_advance_39 ?_
          refine ot_putI E fl_5_36 fw_5_3 dX5_advance_40 h_u.1 rfl ?_
          obtain ⟨I14, hI14⟩ : ∃ y_ : ow_I, y_ = ow_u I u 3 (I u 3 + (nI 1)) := ⟨_, rfl⟩
          replace hk := lt_k (P := fun r : ow_I => K none (S, r, V, z)) hI14 hk
          refine or_nmI hI14 ?_
          refine or_goto 8 E dX5_advance_43 rfl ?_
          refine or_lv _ ?_ (ih _  (by subst hI14; simp (disch := decide) only [ow_u_k, ow_u_s]; exact h1) (by subst hI14; simp (disch := decide) only [ow_u_k, ow_u_s]; exact h1b) (by subst hI14; simp (disch := decide) only [ow_u_k, ow_u_s]; exact (tn_inc h3 (by omega)).1) (by subst hI14; simp (disch := decide) only [ow_u_k, ow_u_s]; rw [(tn_inc h3 (by omega)).2]; omega) (by subst hI14; simp (disch := decide) only [ow_u_k, ow_u_s]; rw [(tn_inc h3 (by omega)).2]; omega) hk)
          rfl
  dsimp only [U_advance] at hk
  refine or_aload_n E rfl dX5_advance_0 ?_
  refine or_aload_n E rfl dX5_advance_1 ?_
  refine ot_getI E fl_5_29 dX5_advance_2 h_u.1 rfl ?_
  refine ot_putI E fl_5_36 fw_5_3 dX5_advance_5 h_u.1 rfl ?_
  obtain ⟨I1, hI1⟩ : ∃ y_ : ow_I, y_ = ow_u I u 3 (I u 4) := ⟨_, rfl⟩
  replace hk := lt_k (P := fun r : ow_I => K none (S, r, V, z)) hI1 hk
  refine or_nmI hI1 ?_
  refine or_lv _ ?_ (L8 501 _  (by subst hI1; simp (disch := decide) only [ow_u_k, ow_u_s]; exact h1) (by subst hI1; simp (disch := decide) only [ow_u_k, ow_u_s]; exact h1b) (by subst hI1; simp (disch := decide) only [ow_u_k, ow_u_s]; exact h4) (by subst hI1; simp (disch := decide) only [ow_u_k, ow_u_s]; exact h4b) (by omega) hk)
  rfl
def U_restart (u : Nat) (I : ow_I) : ow_I :=
  lt (ow_u I u 4 (nI 0)) (fun (I1 : ow_I) => lt (U_advance u I1) (fun (I2 : ow_I) => I2))
set_option maxRecDepth 100000 in
set_option maxHeartbeats 400000 in
theorem cU_restart {S : Nat → Option ow_Sh} {I : ow_I} {V : Nat → Nat → Value} {z : Nat} {u : Nat} (h_u : in_S S u) (h1 : 0 ≤ I u 1) (h1b : tn (I u 1) ≤ 500) : ow_Cf yX5_restart cX5_restart 1 none 2 [.ref u] (S, I, V, z) none (S, U_restart u I, V, z) := by
  refine ow_Cf.of rfl (Nat.le_of_ble_eq_true rfl) (fun X K E F hk => ?_)
  have E : ow_E X RX5 cX5_restart 1 (ow_rm 2 0 0) := E
  refine or_lv [(0, .ref u)] rfl ?_
  dsimp only [U_restart] at hk
  refine or_aload_n E rfl dX5_restart_0 ?_
  refine or_iconst (v := nI 0) E rfl dX5_restart_1 ?_
  refine ot_putI E fl_5_29 fw_5_4 dX5_restart_2 h_u.1 rfl ?_
  obtain ⟨I1, hI1⟩ : ∃ y_ : ow_I, y_ = ow_u I u 4 (nI 0) := ⟨_, rfl⟩
  replace hk := lt_k (P := fun r : ow_I => K none (S, r, V, z)) hI1 hk
  refine or_nmI hI1 ?_
  refine or_aload_n E rfl dX5_restart_5 ?_
  refine or_cV0v (cU_advance  h_u (by subst hI1; simp (disch := decide) only [ow_u_k, ow_u_s]; exact h1) (by subst hI1; simp (disch := decide) only [ow_u_k, ow_u_s]; exact h1b) (by subst hI1; simp (disch := decide) only [ow_u_k, ow_u_s]; decide) (by subst hI1; simp (disch := decide) only [ow_u_k, ow_u_s]; decide)) E lk_5_33 dX5_restart_6 h_u.1 rfl rfl (by decide) (by decide) ⟨Nat.le_refl _, Nat.le_refl _⟩ (Nat.le_of_ble_eq_true rfl) ?_
  obtain ⟨I2, hI2⟩ : ∃ y_ : ow_I, y_ = U_advance u I1 := ⟨_, rfl⟩
  replace hk := lt_k (P := fun r : ow_I => K none (S, r, V, z)) hI2 hk
  refine or_nmI hI2 ?_
  exact or_vret E F dX5_restart_9 (Nat.le_refl _) (Nat.le_refl _) hk
