theorem li_by2 {B x q i : Nat} {I : ow_I} {le b : Int32} (h : LI B x q I) (hi : i < tn (I (x + 1) 8)) (hle : le = I (x + 1) 15) (hb : b = if 0 ≤ le then (le + nI 1 + nI i) - (le + nI 1 + nI i) / I (x + 1) 8 * I (x + 1) 8 else nI i) : 0 ≤ b ∧ tn b < tn (I (x + 1) 8) := by
  subst hle
  exact li_by h hi hb
theorem se_l {b c : Bool} {l : Int32} (hb : b = if c then (if l < 0 then false else true) else false) (h : b = true) : ¬ l < 0 := by
  intro hn
  rw [hb, if_pos hn, ite_self] at h
  exact absurd h Bool.false_ne_true
theorem ba_J2 {B x q : Nat} {I I2 : ow_I} (h : LI B x q I) (h10 : I2 (x + 1) 10 = I (x + 1) 10) (hn : ¬ I (x + 1) 13 < 0) : 0 ≤ I (x + 1) 13 ∧ tn (I (x + 1) 13) < tn (I2 (x + 1) 10) := by
  rw [h10]
  exact li_o h hn
theorem ba_J {B x q : Nat} {I I2 : ow_I} (h : LI B x q I) (h10 : I2 (x + 1) 10 = I (x + 1) 10) (hl : ¬ I (x + 1) 15 < 0) : 0 ≤ I (x + 1) 13 ∧ tn (I (x + 1) 13) < tn (I2 (x + 1) 10) := by
  rcases mk_lead h.2.2.1 with e | e
  · rw [e] at hl; exact absurd (by decide) hl
  · exact ba_J2 h h10 (Int32.not_lt.mpr e.2.2)
theorem le_J {B x q : Nat} {I I2 : ow_I} (h : LI B x q I) (h8 : I2 (x + 1) 8 = I (x + 1) 8) (hl : ¬ I (x + 1) 15 < 0) : 0 ≤ I (x + 1) 15 ∧ tn (I (x + 1) 15) < tn (I2 (x + 1) 8) := by
  rw [h8]
  exact li_l h hl
theorem qb_J {B x q : Nat} {I I2 : ow_I} (h : LI B x q I) (h10 : I2 (x + 1) 10 = I (x + 1) 10) (hl : ¬ A_queuedBarrel x (nI 0) I < 0) : 0 ≤ A_queuedBarrel x (nI 0) I ∧ tn (A_queuedBarrel x (nI 0) I) < tn (I2 (x + 1) 10) := by
  rw [h10]
  have e : A_queuedBarrel x (nI 0) I = if nI 0 < I (x + 1) 12 then I (x + 1 + 4) (tn (nI 0)) else -1 := by
    unfold A_queuedBarrel
    rw [if_neg (by decide)]
  by_cases q2 : nI 0 < I (x + 1) 12
  · rw [e, if_pos q2]
    have h12 := h.1.1.2.2.1.1
    have h13 := (lt_tn q2 (by decide)).2
    exact ⟨(mk_queue h.2.2.1 h13).1, (mk_queue h.2.2.1 h13).2.1⟩
  · rw [e, if_neg q2] at hl
    exact absurd (by decide) hl

set_option maxRecDepth 100000
theorem lk_120_63 : ow_lv RX120 63 yX10_buyerCount cX10_buyerCount 1 (some .int) 0 := ⟨ow_T_in 895 (by decide +kernel) (by decide +kernel), ow_T_in 896 (by decide +kernel) (by decide +kernel), ow_T_in 897 (by decide +kernel) (by decide +kernel), ow_T_in 1 (by decide +kernel) (by decide +kernel), ow_T_in 898 (by decide +kernel) (by decide +kernel), ⟨by decide +kernel, by decide +kernel, by decide +kernel⟩⟩
theorem lk_120_69 : ow_lv RX120 69 yX10_minute cX10_minute 1 (some .int) 0 := ⟨ow_T_in 903 (by decide +kernel) (by decide +kernel), ow_T_in 904 (by decide +kernel) (by decide +kernel), ow_T_in 905 (by decide +kernel) (by decide +kernel), ow_T_in 1 (by decide +kernel) (by decide +kernel), ow_T_in 906 (by decide +kernel) (by decide +kernel), ⟨by decide +kernel, by decide +kernel, by decide +kernel⟩⟩
theorem lk_120_72 : ow_lv RX120 72 yX10_openBarrel cX10_openBarrel 1 (some .int) 0 := ⟨ow_T_in 907 (by decide +kernel) (by decide +kernel), ow_T_in 908 (by decide +kernel) (by decide +kernel), ow_T_in 909 (by decide +kernel) (by decide +kernel), ow_T_in 1 (by decide +kernel) (by decide +kernel), ow_T_in 910 (by decide +kernel) (by decide +kernel), ⟨by decide +kernel, by decide +kernel, by decide +kernel⟩⟩
theorem lk_120_102 : ow_lt RX120 102 yL_open cL_open 2 (some .boolean) 2 := ⟨ow_T_in 986 (by decide +kernel) (by decide +kernel), ow_T_in 987 (by decide +kernel) (by decide +kernel), ow_T_in 0 (by decide +kernel) (by decide +kernel), ow_T_in 988 (by decide +kernel) (by decide +kernel), ⟨by decide +kernel, by decide +kernel, by decide +kernel⟩⟩
theorem lk_120_106 : ow_lv RX120 106 yX10_leader cX10_leader 1 (some .int) 0 := ⟨ow_T_in 989 (by decide +kernel) (by decide +kernel), ow_T_in 990 (by decide +kernel) (by decide +kernel), ow_T_in 991 (by decide +kernel) (by decide +kernel), ow_T_in 1 (by decide +kernel) (by decide +kernel), ow_T_in 992 (by decide +kernel) (by decide +kernel), ⟨by decide +kernel, by decide +kernel, by decide +kernel⟩⟩
theorem lk_120_109 : ow_lv RX120 109 yX10_reserve cX10_reserve 2 (some .int) 1 := ⟨ow_T_in 993 (by decide +kernel) (by decide +kernel), ow_T_in 994 (by decide +kernel) (by decide +kernel), ow_T_in 995 (by decide +kernel) (by decide +kernel), ow_T_in 1 (by decide +kernel) (by decide +kernel), ow_T_in 996 (by decide +kernel) (by decide +kernel), ⟨by decide +kernel, by decide +kernel, by decide +kernel⟩⟩
theorem lk_120_112 : ow_lv RX120 112 yX10_bid cX10_bid 1 (some .int) 0 := ⟨ow_T_in 997 (by decide +kernel) (by decide +kernel), ow_T_in 998 (by decide +kernel) (by decide +kernel), ow_T_in 999 (by decide +kernel) (by decide +kernel), ow_T_in 1 (by decide +kernel) (by decide +kernel), ow_T_in 1000 (by decide +kernel) (by decide +kernel), ⟨by decide +kernel, by decide +kernel, by decide +kernel⟩⟩
theorem lk_120_115 : ow_lv RX120 115 yX10_step cX10_step 1 (some .int) 0 := ⟨ow_T_in 1001 (by decide +kernel) (by decide +kernel), ow_T_in 1002 (by decide +kernel) (by decide +kernel), ow_T_in 1003 (by decide +kernel) (by decide +kernel), ow_T_in 1 (by decide +kernel) (by decide +kernel), ow_T_in 1004 (by decide +kernel) (by decide +kernel), ⟨by decide +kernel, by decide +kernel, by decide +kernel⟩⟩
theorem lk_120_118 : ow_lv RX120 118 yX10_purse cX10_purse 2 (some .int) 1 := ⟨ow_T_in 1005 (by decide +kernel) (by decide +kernel), ow_T_in 1006 (by decide +kernel) (by decide +kernel), ow_T_in 1007 (by decide +kernel) (by decide +kernel), ow_T_in 1 (by decide +kernel) (by decide +kernel), ow_T_in 1008 (by decide +kernel) (by decide +kernel), ⟨by decide +kernel, by decide +kernel, by decide +kernel⟩⟩
theorem lk_120_121 : ow_lt RX120 121 yL_cost cL_cost 2 (some .int) 2 := ⟨ow_T_in 1022 (by decide +kernel) (by decide +kernel), ow_T_in 1023 (by decide +kernel) (by decide +kernel), ow_T_in 0 (by decide +kernel) (by decide +kernel), ow_T_in 1024 (by decide +kernel) (by decide +kernel), ⟨by decide +kernel, by decide +kernel, by decide +kernel⟩⟩
theorem lk_120_125 : ow_lt RX120 125 yL_reason cL_reason 4 (some .int) 3 := ⟨ow_T_in 983 (by decide +kernel) (by decide +kernel), ow_T_in 984 (by decide +kernel) (by decide +kernel), ow_T_in 0 (by decide +kernel) (by decide +kernel), ow_T_in 985 (by decide +kernel) (by decide +kernel), ⟨by decide +kernel, by decide +kernel, by decide +kernel⟩⟩
theorem lk_120_129 : ow_lt RX120 129 yL_worth cL_worth 9 (some .double) 3 := ⟨ow_T_in 1165 (by decide +kernel) (by decide +kernel), ow_T_in 1166 (by decide +kernel) (by decide +kernel), ow_T_in 0 (by decide +kernel) (by decide +kernel), ow_T_in 1167 (by decide +kernel) (by decide +kernel), ⟨by decide +kernel, by decide +kernel, by decide +kernel⟩⟩
theorem lk_120_133 : ow_lv RX120 133 yX10_nextBid cX10_nextBid 1 (some .int) 0 := ⟨ow_T_in 1025 (by decide +kernel) (by decide +kernel), ow_T_in 1026 (by decide +kernel) (by decide +kernel), ow_T_in 1027 (by decide +kernel) (by decide +kernel), ow_T_in 1 (by decide +kernel) (by decide +kernel), ow_T_in 1028 (by decide +kernel) (by decide +kernel), ⟨by decide +kernel, by decide +kernel, by decide +kernel⟩⟩
def L_reason (x : Nat) (m : Nat) (y : Int32) (I : ow_I) : Int32 :=
  if L_open m (A_minute x I) I then if 0 ≤ A_openBarrel x I then if A_leader x I = y then nI 3 else lt (if 0 ≤ A_leader x I then A_bid x I + (A_step x I) else A_reserve x (A_openBarrel x I) I) (fun (b32 : Int32) => if L_cost m b32 I ≤ A_purse x y I then nI 0 else nI 4) else nI 2 else nI 1
set_option maxRecDepth 100000 in
set_option maxHeartbeats 400000 in
theorem tL_reason {Z : Nat → Nat} {S : Nat → Option ow_Sh} {I : ow_I} {V : Nat → Nat → Value} {z : Nat} {x : Nat} {m : Nat} {y : Int32} {B : Nat} (h_x : au_S S x) (h_m : m4_S S m) (hI : LI B x m I) (hy : 0 ≤ y ∧ tn y < tn (I (x + 1) 8)) : ow_Cx Z yL_reason cL_reason 4 (some .int) 4 0 0 [.ref x, .ref m, .int y] (S, I, V, z) (ox_s S V z 0 (some (.int (L_reason x m y I))) I) := by
  refine ow_Cx.off rfl (Nat.le_of_ble_eq_true rfl) (fun X K E G F hk => ?_)
  have E : ow_E X RX120 cL_reason 4 (ow_rm 4 0 0) := E
  refine or_lv [(0, .ref x), (1, .ref m), (2, .int y)] rfl ?_
  try dsimp only [L_reason] at hk
  refine or_aload_n E rfl dL_reason_0 ?_
  refine or_aload_n E rfl dL_reason_1 ?_
  refine or_fV0r (cA_minute (Z := Z)  h_x ) E G F lk_120_69 dL_reason_2 h_x.1 rfl rfl (by decide) (by decide) ⟨(Nat.le_of_ble_eq_true rfl), (Nat.le_of_ble_eq_true rfl)⟩ (Nat.le_of_ble_eq_true rfl) (fun _ => ?_) (fun h => absurd h (Nat.lt_irrefl 0))
  refine or_fT2r (tL_open (Z := Z)  h_m (li_p hI)) E G F lk_120_102 dL_reason_5 (by decide) (by decide) ⟨(Nat.le_of_ble_eq_true rfl), (Nat.le_of_ble_eq_true rfl)⟩ (Nat.le_of_ble_eq_true rfl) (fun _ => ?_) (fun h => absurd h (Nat.lt_irrefl 0))
  refine or_if_neZ 13 E dL_reason_8 rfl (fun q8 => ?_) (fun q8 => ?_)
  · replace hk := ite_p (P := fun r : Int32 => ox_e K S V z 0 (some (.int (r))) I) q8 hk
    refine or_aload_n E rfl dL_reason_13 ?_
    refine or_fV0r (cA_openBarrel (Z := Z)  h_x ) E G F lk_120_72 dL_reason_14 h_x.1 rfl rfl (by decide) (by decide) ⟨(Nat.le_of_ble_eq_true rfl), (Nat.le_of_ble_eq_true rfl)⟩ (Nat.le_of_ble_eq_true rfl) (fun _ => ?_) (fun h => absurd h (Nat.lt_irrefl 0))
    refine or_if_ge 22 E dL_reason_17 rfl (fun q17 => ?_) (fun q17 => ?_)
    · replace hk := ite_p (P := fun r : Int32 => ox_e K S V z 0 (some (.int (r))) I) q17 hk
      refine or_aload_n E rfl dL_reason_22 ?_
      refine or_fV0r (cA_leader (Z := Z)  h_x ) E G F lk_120_106 dL_reason_23 h_x.1 rfl rfl (by decide) (by decide) ⟨(Nat.le_of_ble_eq_true rfl), (Nat.le_of_ble_eq_true rfl)⟩ (Nat.le_of_ble_eq_true rfl) (fun _ => ?_) (fun h => absurd h (Nat.lt_irrefl 0))
      refine or_iload_n E rfl dL_reason_26 ?_
      refine or_icmp_ne 32 E dL_reason_27 rfl (fun q27 => ?_) (fun q27 => ?_)
      · replace hk := ite_n (P := fun r : Int32 => ox_e K S V z 0 (some (.int (r))) I) q27 hk
        obtain ⟨b32, hb32⟩ : ∃ y_ : Int32, y_ = if 0 ≤ A_leader x I then A_bid x I + (A_step x I) else A_reserve x (A_openBarrel x I) I := ⟨_, rfl⟩
        replace hk := lt_k (P := fun r : Int32 => ox_e K S V z 0 (some (.int (r))) I) hb32 hk
        have J32 : ow_W X 0 0 (S, I, V, z) 59 [(0, .ref x), (1, .ref m), (2, .int y)] [.int b32] := by
          refine or_istore_n E dL_reason_59 (by decide) ?_
          refine or_aload_n E rfl dL_reason_60 ?_
          refine or_iload_n E rfl dL_reason_61 ?_
          refine or_fV1r (cA_purse (Z := Z)  h_x hI.1.1 hy) E G F lk_120_118 dL_reason_62 h_x.1 rfl rfl (by decide) (by decide) ⟨(Nat.le_of_ble_eq_true rfl), (Nat.le_of_ble_eq_true rfl)⟩ (Nat.le_of_ble_eq_true rfl) (fun _ => ?_) (fun h => absurd h (Nat.lt_irrefl 0))
          refine or_aload_n E rfl dL_reason_65 ?_
          refine or_iload_n E rfl dL_reason_66 ?_
          refine or_fT2r (tL_cost (Z := Z)  h_m ) E G F lk_120_121 dL_reason_67 (by decide) (by decide) ⟨(Nat.le_of_ble_eq_true rfl), (Nat.le_of_ble_eq_true rfl)⟩ (Nat.le_of_ble_eq_true rfl) (fun _ => ?_) (fun h => absurd h (Nat.lt_irrefl 0))
          refine or_icmp_ge 77 E dL_reason_70 rfl (fun q70 => ?_) (fun q70 => ?_)
          · replace hk := ite_p (P := fun r : Int32 => ox_e K S V z 0 (some (.int (r))) I) q70 hk
            refine or_iconst (v := nI 0) E rfl dL_reason_77 ?_
            exact or_xr E F (fun X' E' F' => or_iret E' F' dL_reason_78 (Nat.le_of_ble_eq_true rfl) (Nat.le_of_ble_eq_true rfl) (hk.1 rfl))
          · replace hk := ite_n (P := fun r : Int32 => ox_e K S V z 0 (some (.int (r))) I) q70 hk
            refine or_iconst (v := nI 4) E rfl dL_reason_73 ?_
            refine or_goto 78 E dL_reason_74 rfl ?_
            exact or_xr E F (fun X' E' F' => or_iret E' F' dL_reason_78 (Nat.le_of_ble_eq_true rfl) (Nat.le_of_ble_eq_true rfl) (hk.1 rfl))
        refine or_aload_n E rfl dL_reason_32 ?_
        refine or_fV0r (cA_leader (Z := Z)  h_x ) E G F lk_120_106 dL_reason_33 h_x.1 rfl rfl (by decide) (by decide) ⟨(Nat.le_of_ble_eq_true rfl), (Nat.le_of_ble_eq_true rfl)⟩ (Nat.le_of_ble_eq_true rfl) (fun _ => ?_) (fun h => absurd h (Nat.lt_irrefl 0))
        refine or_if_ge 50 E dL_reason_36 rfl (fun q36 => ?_) (fun q36 => ?_)
        · replace hb32 := ite_p (P := fun r_ : Int32 => b32 = r_) q36 hb32
          refine or_aload_n E rfl dL_reason_50 ?_
          refine or_fV0r (cA_bid (Z := Z)  h_x ) E G F lk_120_112 dL_reason_51 h_x.1 rfl rfl (by decide) (by decide) ⟨(Nat.le_of_ble_eq_true rfl), (Nat.le_of_ble_eq_true rfl)⟩ (Nat.le_of_ble_eq_true rfl) (fun _ => ?_) (fun h => absurd h (Nat.lt_irrefl 0))
          refine or_aload_n E rfl dL_reason_54 ?_
          refine or_fV0r (cA_step (Z := Z)  h_x ) E G F lk_120_115 dL_reason_55 h_x.1 rfl rfl (by decide) (by decide) ⟨(Nat.le_of_ble_eq_true rfl), (Nat.le_of_ble_eq_true rfl)⟩ (Nat.le_of_ble_eq_true rfl) (fun _ => ?_) (fun h => absurd h (Nat.lt_irrefl 0))
          refine or_iadd E dL_reason_58 ?_
          obtain rfl : b32 = A_bid x I + (A_step x I) := hb32
          exact or_lv _ rfl J32
        · replace hb32 := ite_n (P := fun r_ : Int32 => b32 = r_) q36 hb32
          refine or_aload_n E rfl dL_reason_39 ?_
          refine or_aload_n E rfl dL_reason_40 ?_
          refine or_fV0r (cA_openBarrel (Z := Z)  h_x ) E G F lk_120_72 dL_reason_41 h_x.1 rfl rfl (by decide) (by decide) ⟨(Nat.le_of_ble_eq_true rfl), (Nat.le_of_ble_eq_true rfl)⟩ (Nat.le_of_ble_eq_true rfl) (fun _ => ?_) (fun h => absurd h (Nat.lt_irrefl 0))
          refine or_fV1r (cA_reserve (Z := Z)  h_x hI.1.1 (li_o' hI q17)) E G F lk_120_109 dL_reason_44 h_x.1 rfl rfl (by decide) (by decide) ⟨(Nat.le_of_ble_eq_true rfl), (Nat.le_of_ble_eq_true rfl)⟩ (Nat.le_of_ble_eq_true rfl) (fun _ => ?_) (fun h => absurd h (Nat.lt_irrefl 0))
          refine or_goto 59 E dL_reason_47 rfl ?_
          obtain rfl : b32 = A_reserve x (A_openBarrel x I) I := hb32
          exact or_lv _ rfl J32
      · replace hk := ite_p (P := fun r : Int32 => ox_e K S V z 0 (some (.int (r))) I) q27 hk
        refine or_iconst (v := nI 3) E rfl dL_reason_30 ?_
        exact or_xr E F (fun X' E' F' => or_iret E' F' dL_reason_31 (Nat.le_of_ble_eq_true rfl) (Nat.le_of_ble_eq_true rfl) (hk.1 rfl))
    · replace hk := ite_n (P := fun r : Int32 => ox_e K S V z 0 (some (.int (r))) I) q17 hk
      refine or_iconst (v := nI 2) E rfl dL_reason_20 ?_
      exact or_xr E F (fun X' E' F' => or_iret E' F' dL_reason_21 (Nat.le_of_ble_eq_true rfl) (Nat.le_of_ble_eq_true rfl) (hk.1 rfl))
  · replace hk := ite_n (P := fun r : Int32 => ox_e K S V z 0 (some (.int (r))) I) (bz_neg q8) hk
    refine or_iconst (v := nI 1) E rfl dL_reason_11 ?_
    exact or_xr E F (fun X' E' F' => or_iret E' F' dL_reason_12 (Nat.le_of_ble_eq_true rfl) (Nat.le_of_ble_eq_true rfl) (hk.1 rfl))
def L_nodder_L16 (x : Nat) (m : Nat) : Nat → ow_I → Nat → Int32
  | 0, I, _ => default
  | n + 1, I, i => if tn (A_buyerCount x I) ≤ i then (-1) else lt (if 0 ≤ A_leader x I then (A_leader x I + (nI 1) + (nI i)) - (A_leader x I + (nI 1) + (nI i)) / (A_buyerCount x I) * (A_buyerCount x I) else nI i) (fun (b21 : Int32) => if L_reason x m b21 I = 0 then if Op.cmpValue (FP.dcmp (L_worth x b21 (A_openBarrel x I) I) (FP.i2d (A_nextBid x I))) .l < 0 then L_nodder_L16 x m n I (i + 1) else b21 else L_nodder_L16 x m n I (i + 1))
def L_nodder (x : Nat) (m : Nat) (I : ow_I) : Int32 :=
  if 0 ≤ A_openBarrel x I then L_nodder_L16 x m 7 I 0 else (-1)
set_option maxRecDepth 100000 in
set_option maxHeartbeats 400000 in
theorem tL_nodder {Z : Nat → Nat} {S : Nat → Option ow_Sh} {I : ow_I} {V : Nat → Nat → Value} {z : Nat} {x : Nat} {m : Nat} {B : Nat} (h_x : au_S S x) (h_m : m4_S S m) (hI : LI B x m I) : ow_Cx Z yL_nodder cL_nodder 5 (some .int) 5 0 0 [.ref x, .ref m] (S, I, V, z) (ox_s S V z 0 (some (.int (L_nodder x m I))) I) := by
  refine ow_Cx.off rfl (Nat.le_of_ble_eq_true rfl) (fun X K E G F hk => ?_)
  have E : ow_E X RX120 cL_nodder 5 (ow_rm 5 0 0) := E
  refine or_lv [(0, .ref x), (1, .ref m)] rfl ?_
  have L16 : ∀ (n : Nat) (I : ow_I) (i : Nat) (hI : LI B x m I) (q4 : 0 ≤ A_openBarrel x I) (hi : i ≤ 6) (hm : 6 - i < n) (hk : ox_e K S V z 0 (some (.int (L_nodder_L16 x m n I i))) I), ow_W X 0 0 (S, I, V, z) 16 [(0, .ref x), (1, .ref m), (2, .int (A_buyerCount x I)), (3, .int (nI i))] [] := by
    intro n
    induction n with
    | zero => intro I i hI q4 hi hm; omega
    | succ n ih =>
      intro I i hI q4 hi hm hk
      dsimp only [L_nodder_L16] at hk
      have h86 : tn (A_buyerCount x I) ≤ 6 := (mk_nbuy hI.2.2.1).2.2
      have h87 : tn (I (x + 1) 8) ≤ 6 := h86
      refine or_iload_n E rfl dL_nodder_16 ?_
      refine or_iload_n E rfl dL_nodder_17 ?_
      refine or_top (nI_tn (li_n8 hI)).symm ?_
      refine or_icmp_geN 82 E dL_nodder_18 rfl (by omega) (by omega) (fun q18 => ?_) (fun q18 => ?_)
      · replace hk := ite_p (P := fun r : Int32 => ox_e K S V z 0 (some (.int (r))) I) q18 hk
        refine or_iconst (v := -1) E rfl dL_nodder_82 ?_
        exact or_xr E F (fun X' E' F' => or_iret E' F' dL_nodder_83 (Nat.le_of_ble_eq_true rfl) (Nat.le_of_ble_eq_true rfl) (hk.1 rfl))
      · replace hk := ite_n (P := fun r : Int32 => ox_e K S V z 0 (some (.int (r))) I) q18 hk
        obtain ⟨b21, hb21⟩ : ∃ y_ : Int32, y_ = if 0 ≤ A_leader x I then (A_leader x I + (nI 1) + (nI i)) - (A_leader x I + (nI 1) + (nI i)) / (A_buyerCount x I) * (A_buyerCount x I) else nI i := ⟨_, rfl⟩
        replace hk := lt_k (P := fun r : Int32 => ox_e K S V z 0 (some (.int (r))) I) hb21 hk
        have J21 : ow_W X 0 0 (S, I, V, z) 42 [(0, .ref x), (1, .ref m), (2, .int (A_buyerCount x I)), (3, .int (nI i))] [.int b21] := by
          refine or_istore E dL_nodder_42 (by decide) ?_
          refine or_aload_n E rfl dL_nodder_44 ?_
          refine or_aload_n E rfl dL_nodder_45 ?_
          refine or_iload E rfl dL_nodder_46 ?_
          refine or_fT3r (tL_reason (Z := Z)  h_x h_m hI (li_by hI (Nat.not_le.mp q18) hb21)) E G F lk_120_125 dL_nodder_48 (by decide) (by decide) ⟨(Nat.le_of_ble_eq_true rfl), (Nat.le_of_ble_eq_true rfl)⟩ (Nat.le_of_ble_eq_true rfl) (fun _ => ?_) (fun h => absurd h (Nat.lt_irrefl 0))
          refine or_if_ne 76 E dL_nodder_51 rfl (fun q51 => ?_) (fun q51 => ?_)
          · replace hk := ite_n (P := fun r : Int32 => ox_e K S V z 0 (some (.int (r))) I) q51 hk
            refine or_iincN (c := 1) E dL_nodder_76 rfl rfl (by decide) ?_
            refine or_goto 16 E dL_nodder_79 rfl ?_
            refine or_lv _ ?_ (ih _ _ hI q4 (by omega) (by omega) hk)
            rfl
          · replace hk := ite_p (P := fun r : Int32 => ox_e K S V z 0 (some (.int (r))) I) q51 hk
            refine or_aload_n E rfl dL_nodder_54 ?_
            refine or_iload E rfl dL_nodder_55 ?_
            refine or_aload_n E rfl dL_nodder_57 ?_
            refine or_fV0r (cA_openBarrel (Z := Z)  h_x ) E G F lk_120_72 dL_nodder_58 h_x.1 rfl rfl (by decide) (by decide) ⟨(Nat.le_of_ble_eq_true rfl), (Nat.le_of_ble_eq_true rfl)⟩ (Nat.le_of_ble_eq_true rfl) (fun _ => ?_) (fun h => absurd h (Nat.lt_irrefl 0))
            refine or_fT3r (tL_worth (Z := Z)  h_x hI.1 (li_by hI (Nat.not_le.mp q18) hb21) (li_o' hI q4)) E G F lk_120_129 dL_nodder_61 (by decide) (by decide) ⟨(Nat.le_of_ble_eq_true rfl), (Nat.le_of_ble_eq_true rfl)⟩ (Nat.le_of_ble_eq_true rfl) (fun _ => ?_) (fun h => absurd h (Nat.lt_irrefl 0))
            refine or_aload_n E rfl dL_nodder_64 ?_
            refine or_fV0r (cA_nextBid (Z := Z)  h_x hI.1.1) E G F lk_120_133 dL_nodder_65 h_x.1 rfl rfl (by decide) (by decide) ⟨(Nat.le_of_ble_eq_true rfl), (Nat.le_of_ble_eq_true rfl)⟩ (Nat.le_of_ble_eq_true rfl) (fun _ => ?_) (fun h => absurd h (Nat.lt_irrefl 0))
            refine or_i2d E dL_nodder_68 ?_
            refine or_dcmp E dL_nodder_69 ?_
            refine or_if_lt 76 E dL_nodder_70 rfl (fun q70 => ?_) (fun q70 => ?_)
            · replace hk := ite_p (P := fun r : Int32 => ox_e K S V z 0 (some (.int (r))) I) q70 hk
              refine or_iincN (c := 1) E dL_nodder_76 rfl rfl (by decide) ?_
              refine or_goto 16 E dL_nodder_79 rfl ?_
              refine or_lv _ ?_ (ih _ _ hI q4 (by omega) (by omega) hk)
              rfl
            · replace hk := ite_n (P := fun r : Int32 => ox_e K S V z 0 (some (.int (r))) I) q70 hk
              refine or_iload E rfl dL_nodder_73 ?_
              exact or_xr E F (fun X' E' F' => or_iret E' F' dL_nodder_75 (Nat.le_of_ble_eq_true rfl) (Nat.le_of_ble_eq_true rfl) (hk.1 rfl))
        refine or_aload_n E rfl dL_nodder_21 ?_
        refine or_fV0r (cA_leader (Z := Z)  h_x ) E G F lk_120_106 dL_nodder_22 h_x.1 rfl rfl (by decide) (by decide) ⟨(Nat.le_of_ble_eq_true rfl), (Nat.le_of_ble_eq_true rfl)⟩ (Nat.le_of_ble_eq_true rfl) (fun _ => ?_) (fun h => absurd h (Nat.lt_irrefl 0))
        refine or_if_ge 32 E dL_nodder_25 rfl (fun q25 => ?_) (fun q25 => ?_)
        · replace hb21 := ite_p (P := fun r_ : Int32 => b21 = r_) q25 hb21
          refine or_aload_n E rfl dL_nodder_32 ?_
          refine or_fV0r (cA_leader (Z := Z)  h_x ) E G F lk_120_106 dL_nodder_33 h_x.1 rfl rfl (by decide) (by decide) ⟨(Nat.le_of_ble_eq_true rfl), (Nat.le_of_ble_eq_true rfl)⟩ (Nat.le_of_ble_eq_true rfl) (fun _ => ?_) (fun h => absurd h (Nat.lt_irrefl 0))
          refine or_iconst (v := nI 1) E rfl dL_nodder_36 ?_
          refine or_iadd E dL_nodder_37 ?_
          refine or_iload_n E rfl dL_nodder_38 ?_
          refine or_iadd E dL_nodder_39 ?_
          refine or_iload_n E rfl dL_nodder_40 ?_
          refine or_irem E (li_n0 hI) dL_nodder_41 ?_
          obtain rfl : b21 = (A_leader x I + (nI 1) + (nI i)) - (A_leader x I + (nI 1) + (nI i)) / (A_buyerCount x I) * (A_buyerCount x I) := hb21
          exact or_lv _ rfl J21
        · replace hb21 := ite_n (P := fun r_ : Int32 => b21 = r_) q25 hb21
          refine or_iload_n E rfl dL_nodder_28 ?_
          refine or_goto 42 E dL_nodder_29 rfl ?_
          obtain rfl : b21 = nI i := hb21
          exact or_lv _ rfl J21
  try dsimp only [L_nodder] at hk
  refine or_aload_n E rfl dL_nodder_0 ?_
  refine or_fV0r (cA_openBarrel (Z := Z)  h_x ) E G F lk_120_72 dL_nodder_1 h_x.1 rfl rfl (by decide) (by decide) ⟨(Nat.le_of_ble_eq_true rfl), (Nat.le_of_ble_eq_true rfl)⟩ (Nat.le_of_ble_eq_true rfl) (fun _ => ?_) (fun h => absurd h (Nat.lt_irrefl 0))
  refine or_if_ge 9 E dL_nodder_4 rfl (fun q4 => ?_) (fun q4 => ?_)
  · replace hk := ite_p (P := fun r : Int32 => ox_e K S V z 0 (some (.int (r))) I) q4 hk
    refine or_aload_n E rfl dL_nodder_9 ?_
    refine or_fV0r (cA_buyerCount (Z := Z)  h_x ) E G F lk_120_63 dL_nodder_10 h_x.1 rfl rfl (by decide) (by decide) ⟨(Nat.le_of_ble_eq_true rfl), (Nat.le_of_ble_eq_true rfl)⟩ (Nat.le_of_ble_eq_true rfl) (fun _ => ?_) (fun h => absurd h (Nat.lt_irrefl 0))
    refine or_istore_n E dL_nodder_13 (by decide) ?_
    refine or_iconst (v := nI 0) E rfl dL_nodder_14 ?_
    refine or_istore_n E dL_nodder_15 (by decide) ?_
    refine or_lv _ ?_ (L16 7 _ _ hI q4 (by decide) (by decide) hk)
    rfl
  · replace hk := ite_n (P := fun r : Int32 => ox_e K S V z 0 (some (.int (r))) I) q4 hk
    refine or_iconst (v := -1) E rfl dL_nodder_7 ?_
    exact or_xr E F (fun X' E' F' => or_iret E' F' dL_nodder_8 (Nat.le_of_ble_eq_true rfl) (Nat.le_of_ble_eq_true rfl) (hk.1 rfl))
