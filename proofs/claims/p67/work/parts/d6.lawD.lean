set_option maxRecDepth 100000
theorem lk_120_66 : ow_lv RX120 66 yX10_queueLength cX10_queueLength 1 (some .int) 0 := ⟨ow_T_in 899 (by decide +kernel) (by decide +kernel), ow_T_in 900 (by decide +kernel) (by decide +kernel), ow_T_in 901 (by decide +kernel) (by decide +kernel), ow_T_in 1 (by decide +kernel) (by decide +kernel), ow_T_in 902 (by decide +kernel) (by decide +kernel), ⟨by decide +kernel, by decide +kernel, by decide +kernel⟩⟩
theorem lk_120_75 : ow_lv RX120 75 yX10_isOpen cX10_isOpen 1 (some .boolean) 0 := ⟨ow_T_in 911 (by decide +kernel) (by decide +kernel), ow_T_in 912 (by decide +kernel) (by decide +kernel), ow_T_in 913 (by decide +kernel) (by decide +kernel), ow_T_in 1 (by decide +kernel) (by decide +kernel), ow_T_in 914 (by decide +kernel) (by decide +kernel), ⟨by decide +kernel, by decide +kernel, by decide +kernel⟩⟩
theorem lk_120_136 : ow_lv RX120 136 yX10_quiet cX10_quiet 1 (some .int) 0 := ⟨ow_T_in 1064 (by decide +kernel) (by decide +kernel), ow_T_in 1065 (by decide +kernel) (by decide +kernel), ow_T_in 1066 (by decide +kernel) (by decide +kernel), ow_T_in 1 (by decide +kernel) (by decide +kernel), ow_T_in 1067 (by decide +kernel) (by decide +kernel), ⟨by decide +kernel, by decide +kernel, by decide +kernel⟩⟩
theorem lk_120_139 : ow_lv RX120 139 yX10_queuedBarrel cX10_queuedBarrel 2 (some .int) 1 := ⟨ow_T_in 1099 (by decide +kernel) (by decide +kernel), ow_T_in 1100 (by decide +kernel) (by decide +kernel), ow_T_in 1101 (by decide +kernel) (by decide +kernel), ow_T_in 1 (by decide +kernel) (by decide +kernel), ow_T_in 1102 (by decide +kernel) (by decide +kernel), ⟨by decide +kernel, by decide +kernel, by decide +kernel⟩⟩
theorem lk_120_142 : ow_lv RX120 142 yX10_sellerCoins cX10_sellerCoins 1 (some .int) 0 := ⟨ow_T_in 1149 (by decide +kernel) (by decide +kernel), ow_T_in 1150 (by decide +kernel) (by decide +kernel), ow_T_in 1151 (by decide +kernel) (by decide +kernel), ow_T_in 1 (by decide +kernel) (by decide +kernel), ow_T_in 1152 (by decide +kernel) (by decide +kernel), ⟨by decide +kernel, by decide +kernel, by decide +kernel⟩⟩
theorem lk_120_145 : ow_lv RX120 145 yX10_houseCoins cX10_houseCoins 1 (some .int) 0 := ⟨ow_T_in 1153 (by decide +kernel) (by decide +kernel), ow_T_in 1154 (by decide +kernel) (by decide +kernel), ow_T_in 1155 (by decide +kernel) (by decide +kernel), ow_T_in 1 (by decide +kernel) (by decide +kernel), ow_T_in 1156 (by decide +kernel) (by decide +kernel), ⟨by decide +kernel, by decide +kernel, by decide +kernel⟩⟩
theorem lk_120_148 : ow_lv RX120 148 yX10_minutesToHorn cX10_minutesToHorn 1 (some .int) 0 := ⟨ow_T_in 1157 (by decide +kernel) (by decide +kernel), ow_T_in 1158 (by decide +kernel) (by decide +kernel), ow_T_in 1159 (by decide +kernel) (by decide +kernel), ow_T_in 1 (by decide +kernel) (by decide +kernel), ow_T_in 1160 (by decide +kernel) (by decide +kernel), ⟨by decide +kernel, by decide +kernel, by decide +kernel⟩⟩
theorem lk_120_151 : ow_lv RX120 151 yX10_returns cX10_returns 2 (some .int) 1 := ⟨ow_T_in 1104 (by decide +kernel) (by decide +kernel), ow_T_in 1105 (by decide +kernel) (by decide +kernel), ow_T_in 1106 (by decide +kernel) (by decide +kernel), ow_T_in 1 (by decide +kernel) (by decide +kernel), ow_T_in 1107 (by decide +kernel) (by decide +kernel), ⟨by decide +kernel, by decide +kernel, by decide +kernel⟩⟩
theorem lk_120_154 : ow_lv RX120 154 yX10_passMinutes cX10_passMinutes 2 (some .int) 1 := ⟨ow_T_in 1180 (by decide +kernel) (by decide +kernel), ow_T_in 1181 (by decide +kernel) (by decide +kernel), ow_T_in 1182 (by decide +kernel) (by decide +kernel), ow_T_in 1 (by decide +kernel) (by decide +kernel), ow_T_in 1183 (by decide +kernel) (by decide +kernel), ⟨by decide +kernel, by decide +kernel, by decide +kernel⟩⟩
theorem lk_120_157 : ow_lv RX120 157 yX10_stateOf cX10_stateOf 2 (some .int) 1 := ⟨ow_T_in 979 (by decide +kernel) (by decide +kernel), ow_T_in 980 (by decide +kernel) (by decide +kernel), ow_T_in 981 (by decide +kernel) (by decide +kernel), ow_T_in 1 (by decide +kernel) (by decide +kernel), ow_T_in 982 (by decide +kernel) (by decide +kernel), ⟨by decide +kernel, by decide +kernel, by decide +kernel⟩⟩
theorem lk_120_160 : ow_lv RX120 160 yX10_buyerOf cX10_buyerOf 2 (some .int) 1 := ⟨ow_T_in 1229 (by decide +kernel) (by decide +kernel), ow_T_in 1230 (by decide +kernel) (by decide +kernel), ow_T_in 1231 (by decide +kernel) (by decide +kernel), ow_T_in 1 (by decide +kernel) (by decide +kernel), ow_T_in 1232 (by decide +kernel) (by decide +kernel), ⟨by decide +kernel, by decide +kernel, by decide +kernel⟩⟩
theorem lk_120_163 : ow_lv RX120 163 yX10_priceOf cX10_priceOf 2 (some .int) 1 := ⟨ow_T_in 1233 (by decide +kernel) (by decide +kernel), ow_T_in 1234 (by decide +kernel) (by decide +kernel), ow_T_in 1235 (by decide +kernel) (by decide +kernel), ow_T_in 1 (by decide +kernel) (by decide +kernel), ow_T_in 1236 (by decide +kernel) (by decide +kernel), ⟨by decide +kernel, by decide +kernel, by decide +kernel⟩⟩
def L_minute_L134 (x : Nat) (m : Nat) : Nat → ow_I → Int32 → Int32 → Int32 → Int32 → Int32 → Int32 → Int32 → Int32 → Int32 → Bool → Int32 → Nat → Int32
  | 0, I, _, _, _, _, _, _, _, _, _, _, _, _ => 0
  | n + 1, I, v2, ba, le, v5, v6, v7, v8, v9, v10, cl, no, i => if tn (A_buyerCount x I) ≤ i then (no) else if 0 ≤ no then (no) else lt (if 0 ≤ le then (le + (nI 1) + (nI i)) - (le + (nI 1) + (nI i)) / (A_buyerCount x I) * (A_buyerCount x I) else nI i) (fun (b148 : Int32) => if b148 = le then L_minute_L134 x m n I v2 ba le v5 v6 v7 v8 v9 v10 cl no (i + 1) else if A_purse x b148 I < L_cost m (A_nextBid x I) I then L_minute_L134 x m n I v2 ba le v5 v6 v7 v8 v9 v10 cl no (i + 1) else if Op.cmpValue (FP.dcmp (L_worth x b148 ba I) (FP.i2d (A_nextBid x I))) .l < 0 then L_minute_L134 x m n I v2 ba le v5 v6 v7 v8 v9 v10 cl no (i + 1) else L_minute_L134 x m n I v2 ba le v5 v6 v7 v8 v9 v10 cl b148 (i + 1))
def L_minute (x : Nat) (m : Nat) (I : ow_I) : Bool × ow_I :=
  lt (if L_open m (A_minute x I + (nI 1)) I then false else if L_open m (A_minute x I + (nI 1) - (nI 1)) I then true else false) (fun (b55 : Bool) => lt (if b55 then if A_openBarrel x I < 0 then false else true else false) (fun (b80 : Bool) => lt (if A_minutesToHorn x I = nI 1 then true else false) (fun (b96 : Bool) => if bi b96 = bi b55 then lt (if L_open m (A_minute x I + (nI 1)) I then if A_openBarrel x I < 0 then (b80, (-1)) else lt (L_minute_L134 x m 7 I (A_minute x I + (nI 1)) (A_openBarrel x I) (A_leader x I) (A_bid x I) (A_quiet x I) (A_queueLength x I) (A_queuedBarrel x (nI 0) I) (A_sellerCoins x I) (A_houseCoins x I) b80 ((-1)) 0) (fun (r1 : Int32) => if 0 ≤ r1 then (false, r1) else if A_quiet x I + (nI 1) < I m 2 then (false, r1) else (true, r1)) else (b80, (-1))) (fun (b119 : Bool × Int32) => lt (if b119.2 < 0 then A_bid x I else A_nextBid x I) (fun (b244 : Int32) => lt (if 0 ≤ A_leader x I then A_purse x (A_leader x I) I else nI 0) (fun (b260 : Int32) => lt (if 0 ≤ A_openBarrel x I then A_returns x (A_openBarrel x I) I else nI 0) (fun (b277 : Int32) => lt (if b119.1 then if A_leader x I < 0 then false else true else false) (fun (b292 : Bool) => lt (A_passMinutes x (nI 1) I) (fun (r2 : Int32 × ow_I) => lt (if b292 then true else false) (fun (b314 : Bool) => if r2.1 = bi b314 then lt (if A_minute x r2.2 = A_minute x I + (nI 1) then if bi (A_isOpen x r2.2) = bi (L_open m (A_minute x I + (nI 1)) r2.2) then true else false else false) (fun (b327 : Bool) => if b327 then lt (if b292 then if A_stateOf x (A_openBarrel x I) r2.2 = nI 2 then if A_buyerOf x (A_openBarrel x I) r2.2 = A_leader x I then if A_priceOf x (A_openBarrel x I) r2.2 = A_bid x I then if A_purse x (A_leader x I) r2.2 = b260 - (L_cost m (A_bid x I) r2.2) then if A_sellerCoins x r2.2 = A_sellerCoins x I + (A_bid x I) then if A_houseCoins x r2.2 = A_houseCoins x I + (L_cost m (A_bid x I) r2.2) - (A_bid x I) then true else false else false else false else false else false else false else true) (fun (b349 : Bool) => if b349 then lt (if b292 then true else if A_sellerCoins x r2.2 = A_sellerCoins x I then if A_houseCoins x r2.2 = A_houseCoins x I then true else false else false) (fun (b434 : Bool) => if b434 then lt (if b119.1 then if 0 ≤ A_leader x I then false else if nI 2 ≤ b277 then false else true else false) (fun (b459 : Bool) => lt (if b119.1 then if 0 ≤ A_leader x I then true else if A_returns x (A_openBarrel x I) r2.2 = b277 + (nI 1) then if b459 then if A_stateOf x (A_openBarrel x I) r2.2 = nI 0 then true else false else if A_stateOf x (A_openBarrel x I) r2.2 = nI 3 then true else false else false else true) (fun (b482 : Bool) => if b482 then lt (if L_open m (A_minute x I + (nI 1)) r2.2 then if 0 ≤ A_openBarrel x I then false else true else false) (fun (b524 : Bool) => if b524 then if A_openBarrel x r2.2 = A_queuedBarrel x (nI 0) I then if A_queuedBarrel x (nI 0) I < 0 then if A_queueLength x r2.2 = i_max (nI 0) (A_queueLength x I - (nI 1)) then (true, r2.2) else (false, r2.2) else if A_quiet x r2.2 = 0 then if A_leader x r2.2 = (-1) then if A_bid x r2.2 = (-1) then if A_nextBid x r2.2 = A_reserve x (A_queuedBarrel x (nI 0) I) r2.2 then if A_queueLength x r2.2 = i_max (nI 0) (A_queueLength x I - (nI 1)) then (true, r2.2) else (false, r2.2) else (false, r2.2) else (false, r2.2) else (false, r2.2) else (false, r2.2) else (false, r2.2) else if b119.1 then if A_openBarrel x r2.2 = (-1) then lt (if b459 then true else false) (fun (b626 : Bool) => if A_queueLength x r2.2 = A_queueLength x I + (bi b626) then if b459 then if A_queuedBarrel x (A_queueLength x I) r2.2 = A_openBarrel x I then (true, r2.2) else (false, r2.2) else (true, r2.2) else (false, r2.2)) else (false, r2.2) else if A_openBarrel x r2.2 = A_openBarrel x I then if A_queueLength x r2.2 = A_queueLength x I then if A_openBarrel x I < 0 then (true, r2.2) else if A_bid x r2.2 = b244 then if b119.2 < 0 then if A_leader x r2.2 = A_leader x I then if b119.2 < 0 then if A_quiet x r2.2 = A_quiet x I + (nI 1) then (true, r2.2) else (false, r2.2) else if A_quiet x r2.2 = nI 0 then (true, r2.2) else (false, r2.2) else (false, r2.2) else if A_leader x r2.2 = b119.2 then if b119.2 < 0 then if A_quiet x r2.2 = A_quiet x I + (nI 1) then (true, r2.2) else (false, r2.2) else if A_quiet x r2.2 = nI 0 then (true, r2.2) else (false, r2.2) else (false, r2.2) else (false, r2.2) else (false, r2.2) else (false, r2.2)) else (false, r2.2))) else (false, r2.2)) else (false, r2.2)) else (false, r2.2)) else (false, r2.2)))))))) else (false, I))))
set_option maxRecDepth 100000 in
set_option maxHeartbeats 2000000 in
theorem tL_minute {Z : Nat → Nat} {S : Nat → Option ow_Sh} {I : ow_I} {V : Nat → Nat → Value} {z : Nat} {x : Nat} {m : Nat} {B : Nat} (h_x : au_S S x) (h_m : m4_S S m) (hI : LI B x m I) (hJ : LI (B + 1) x m (A_passMinutes x (nI 1) I).2) (h10 : (A_passMinutes x (nI 1) I).2 (x + 1) 10 = I (x + 1) 10) (h8 : (A_passMinutes x (nI 1) I).2 (x + 1) 8 = I (x + 1) 8) : ow_Cx Z yL_minute cL_minute 19 (some .boolean) 6 0 0 [.ref x, .ref m] (S, I, V, z) (ox_s S V z 0 (some (.int (bi ((L_minute x m I).1)))) ((L_minute x m I).2)) := by
  refine ow_Cx.off rfl (Nat.le_of_ble_eq_true rfl) (fun X K E G F hk => ?_)
  have E : ow_E X RX120 cL_minute 19 (ow_rm 6 0 0) := E
  refine or_lv [(0, .ref x), (1, .ref m)] rfl ?_
  have L134 : ∀ (n : Nat) (I : ow_I) (v2 : Int32) (ba : Int32) (le : Int32) (v5 : Int32) (v6 : Int32) (v7 : Int32) (v8 : Int32) (v9 : Int32) (v10 : Int32) (cl : Bool) (no : Int32) (i : Nat) (hI : LI B x m I) (hba : 0 ≤ ba ∧ tn ba < tn (I (x + 1) 10)) (hle : le = I (x + 1) 15) (hi : i ≤ 6) (hm : 6 - i < n) (hk : ow_W X 0 0 (S, I, V, z) 222 [(0, .ref x), (1, .ref m), (2, .int v2), (3, .int ba), (4, .int le), (5, .int v5), (6, .int v6), (7, .int v7), (8, .int v8), (9, .int v9), (10, .int v10), (12, .int (bi cl)), (13, .int ((L_minute_L134 x m n I v2 ba le v5 v6 v7 v8 v9 v10 cl no i)))] []), ow_W X 0 0 (S, I, V, z) 134 [(0, .ref x), (1, .ref m), (2, .int v2), (3, .int ba), (4, .int le), (5, .int v5), (6, .int v6), (7, .int v7), (8, .int v8), (9, .int v9), (10, .int v10), (12, .int (bi cl)), (13, .int no), (14, .int (nI i))] [] := by
    intro n
    induction n with
    | zero => intro I v2 ba le v5 v6 v7 v8 v9 v10 cl no i hI hba hle hi hm; omega
    | succ n ih =>
      intro I v2 ba le v5 v6 v7 v8 v9 v10 cl no i hI hba hle hi hm hk
      dsimp only [L_minute_L134] at hk
      have h86 : tn (A_buyerCount x I) ≤ 6 := (mk_nbuy hI.2.2.1).2.2
      have h87 : tn (I (x + 1) 8) ≤ 6 := h86
      refine or_iload E rfl dL_minute_134 ?_
      refine or_aload_n E rfl dL_minute_136 ?_
      refine or_fV0r (cA_buyerCount (Z := Z)  h_x ) E G F lk_120_63 dL_minute_137 h_x.1 rfl rfl (by decide) (by decide) ⟨(Nat.le_of_ble_eq_true rfl), (Nat.le_of_ble_eq_true rfl)⟩ (Nat.le_of_ble_eq_true rfl) (fun _ => ?_) (fun h => absurd h (Nat.lt_irrefl 0))
      refine or_top (nI_tn (li_n8 hI)).symm ?_
      refine or_icmp_geN 222 E dL_minute_140 rfl (by omega) (by omega) (fun q140 => ?_) (fun q140 => ?_)
      · replace hk := ite_p (P := fun r : Int32 => ow_W X 0 0 (S, I, V, z) 222 [(0, .ref x), (1, .ref m), (2, .int v2), (3, .int ba), (4, .int le), (5, .int v5), (6, .int v6), (7, .int v7), (8, .int v8), (9, .int v9), (10, .int v10), (12, .int (bi cl)), (13, .int r)] []) q140 hk
        try dsimp only at hk
        exact or_lv _ rfl hk
      · replace hk := ite_n (P := fun r : Int32 => ow_W X 0 0 (S, I, V, z) 222 [(0, .ref x), (1, .ref m), (2, .int v2), (3, .int ba), (4, .int le), (5, .int v5), (6, .int v6), (7, .int v7), (8, .int v8), (9, .int v9), (10, .int v10), (12, .int (bi cl)), (13, .int r)] []) q140 hk
        refine or_iload E rfl dL_minute_143 ?_
        refine or_if_ge 222 E dL_minute_145 rfl (fun q145 => ?_) (fun q145 => ?_)
        · replace hk := ite_p (P := fun r : Int32 => ow_W X 0 0 (S, I, V, z) 222 [(0, .ref x), (1, .ref m), (2, .int v2), (3, .int ba), (4, .int le), (5, .int v5), (6, .int v6), (7, .int v7), (8, .int v8), (9, .int v9), (10, .int v10), (12, .int (bi cl)), (13, .int r)] []) q145 hk
          try dsimp only at hk
          exact or_lv _ rfl hk
        · replace hk := ite_n (P := fun r : Int32 => ow_W X 0 0 (S, I, V, z) 222 [(0, .ref x), (1, .ref m), (2, .int v2), (3, .int ba), (4, .int le), (5, .int v5), (6, .int v6), (7, .int v7), (8, .int v8), (9, .int v9), (10, .int v10), (12, .int (bi cl)), (13, .int r)] []) q145 hk
          obtain ⟨b148, hb148⟩ : ∃ y_ : Int32, y_ = if 0 ≤ le then (le + (nI 1) + (nI i)) - (le + (nI 1) + (nI i)) / (A_buyerCount x I) * (A_buyerCount x I) else nI i := ⟨_, rfl⟩
          replace hk := lt_k (P := fun r : Int32 => ow_W X 0 0 (S, I, V, z) 222 [(0, .ref x), (1, .ref m), (2, .int v2), (3, .int ba), (4, .int le), (5, .int v5), (6, .int v6), (7, .int v7), (8, .int v8), (9, .int v9), (10, .int v10), (12, .int (bi cl)), (13, .int r)] []) hb148 hk
          have J148 : ow_W X 0 0 (S, I, V, z) 170 [(0, .ref x), (1, .ref m), (2, .int v2), (3, .int ba), (4, .int le), (5, .int v5), (6, .int v6), (7, .int v7), (8, .int v8), (9, .int v9), (10, .int v10), (12, .int (bi cl)), (13, .int no), (14, .int (nI i))] [.int b148] := by
            refine or_istore E dL_minute_170 (by decide) ?_
            refine or_iload E rfl dL_minute_172 ?_
            refine or_iload E rfl dL_minute_174 ?_
            refine or_icmp_eq 216 E dL_minute_176 rfl (fun q176 => ?_) (fun q176 => ?_)
            · replace hk := ite_p (P := fun r : Int32 => ow_W X 0 0 (S, I, V, z) 222 [(0, .ref x), (1, .ref m), (2, .int v2), (3, .int ba), (4, .int le), (5, .int v5), (6, .int v6), (7, .int v7), (8, .int v8), (9, .int v9), (10, .int v10), (12, .int (bi cl)), (13, .int r)] []) q176 hk
              refine or_iincN (c := 1) E dL_minute_216 rfl rfl (by decide) ?_
              refine or_goto 134 E dL_minute_219 rfl ?_
              refine or_lv _ ?_ (ih _ _ _ _ _ _ _ _ _ _ _ _ _ hI hba hle (by omega) (by omega) hk)
              rfl
            · replace hk := ite_n (P := fun r : Int32 => ow_W X 0 0 (S, I, V, z) 222 [(0, .ref x), (1, .ref m), (2, .int v2), (3, .int ba), (4, .int le), (5, .int v5), (6, .int v6), (7, .int v7), (8, .int v8), (9, .int v9), (10, .int v10), (12, .int (bi cl)), (13, .int r)] []) q176 hk
              refine or_aload_n E rfl dL_minute_179 ?_
              refine or_iload E rfl dL_minute_180 ?_
              refine or_fV1r (cA_purse (Z := Z)  h_x hI.1.1 (li_by2 hI (Nat.not_le.mp q140) hle hb148)) E G F lk_120_118 dL_minute_182 h_x.1 rfl rfl (by decide) (by decide) ⟨(Nat.le_of_ble_eq_true rfl), (Nat.le_of_ble_eq_true rfl)⟩ (Nat.le_of_ble_eq_true rfl) (fun _ => ?_) (fun h => absurd h (Nat.lt_irrefl 0))
              refine or_aload_n E rfl dL_minute_185 ?_
              refine or_aload_n E rfl dL_minute_186 ?_
              refine or_fV0r (cA_nextBid (Z := Z)  h_x hI.1.1) E G F lk_120_133 dL_minute_187 h_x.1 rfl rfl (by decide) (by decide) ⟨(Nat.le_of_ble_eq_true rfl), (Nat.le_of_ble_eq_true rfl)⟩ (Nat.le_of_ble_eq_true rfl) (fun _ => ?_) (fun h => absurd h (Nat.lt_irrefl 0))
              refine or_fT2r (tL_cost (Z := Z)  h_m ) E G F lk_120_121 dL_minute_190 (by decide) (by decide) ⟨(Nat.le_of_ble_eq_true rfl), (Nat.le_of_ble_eq_true rfl)⟩ (Nat.le_of_ble_eq_true rfl) (fun _ => ?_) (fun h => absurd h (Nat.lt_irrefl 0))
              refine or_icmp_lt 216 E dL_minute_193 rfl (fun q193 => ?_) (fun q193 => ?_)
              · replace hk := ite_p (P := fun r : Int32 => ow_W X 0 0 (S, I, V, z) 222 [(0, .ref x), (1, .ref m), (2, .int v2), (3, .int ba), (4, .int le), (5, .int v5), (6, .int v6), (7, .int v7), (8, .int v8), (9, .int v9), (10, .int v10), (12, .int (bi cl)), (13, .int r)] []) q193 hk
                refine or_iincN (c := 1) E dL_minute_216 rfl rfl (by decide) ?_
                refine or_goto 134 E dL_minute_219 rfl ?_
                refine or_lv _ ?_ (ih _ _ _ _ _ _ _ _ _ _ _ _ _ hI hba hle (by omega) (by omega) hk)
                rfl
              · replace hk := ite_n (P := fun r : Int32 => ow_W X 0 0 (S, I, V, z) 222 [(0, .ref x), (1, .ref m), (2, .int v2), (3, .int ba), (4, .int le), (5, .int v5), (6, .int v6), (7, .int v7), (8, .int v8), (9, .int v9), (10, .int v10), (12, .int (bi cl)), (13, .int r)] []) q193 hk
                refine or_aload_n E rfl dL_minute_196 ?_
                refine or_iload E rfl dL_minute_197 ?_
                refine or_iload_n E rfl dL_minute_199 ?_
                refine or_fT3r (tL_worth (Z := Z)  h_x hI.1 (li_by2 hI (Nat.not_le.mp q140) hle hb148) hba) E G F lk_120_129 dL_minute_200 (by decide) (by decide) ⟨(Nat.le_of_ble_eq_true rfl), (Nat.le_of_ble_eq_true rfl)⟩ (Nat.le_of_ble_eq_true rfl) (fun _ => ?_) (fun h => absurd h (Nat.lt_irrefl 0))
                refine or_aload_n E rfl dL_minute_203 ?_
                refine or_fV0r (cA_nextBid (Z := Z)  h_x hI.1.1) E G F lk_120_133 dL_minute_204 h_x.1 rfl rfl (by decide) (by decide) ⟨(Nat.le_of_ble_eq_true rfl), (Nat.le_of_ble_eq_true rfl)⟩ (Nat.le_of_ble_eq_true rfl) (fun _ => ?_) (fun h => absurd h (Nat.lt_irrefl 0))
                refine or_i2d E dL_minute_207 ?_
                refine or_dcmp E dL_minute_208 ?_
                refine or_if_lt 216 E dL_minute_209 rfl (fun q209 => ?_) (fun q209 => ?_)
                · replace hk := ite_p (P := fun r : Int32 => ow_W X 0 0 (S, I, V, z) 222 [(0, .ref x), (1, .ref m), (2, .int v2), (3, .int ba), (4, .int le), (5, .int v5), (6, .int v6), (7, .int v7), (8, .int v8), (9, .int v9), (10, .int v10), (12, .int (bi cl)), (13, .int r)] []) q209 hk
                  refine or_iincN (c := 1) E dL_minute_216 rfl rfl (by decide) ?_
                  refine or_goto 134 E dL_minute_219 rfl ?_
                  refine or_lv _ ?_ (ih _ _ _ _ _ _ _ _ _ _ _ _ _ hI hba hle (by omega) (by omega) hk)
                  rfl
                · replace hk := ite_n (P := fun r : Int32 => ow_W X 0 0 (S, I, V, z) 222 [(0, .ref x), (1, .ref m), (2, .int v2), (3, .int ba), (4, .int le), (5, .int v5), (6, .int v6), (7, .int v7), (8, .int v8), (9, .int v9), (10, .int v10), (12, .int (bi cl)), (13, .int r)] []) q209 hk
                  refine or_iload E rfl dL_minute_212 ?_
                  refine or_istore E dL_minute_214 (by decide) ?_
                  refine or_iincN (c := 1) E dL_minute_216 rfl rfl (by decide) ?_
                  refine or_goto 134 E dL_minute_219 rfl ?_
                  refine or_lv _ ?_ (ih _ _ _ _ _ _ _ _ _ _ _ _ _ hI hba hle (by omega) (by omega) hk)
                  rfl
          refine or_iload E rfl dL_minute_148 ?_
          refine or_if_ge 158 E dL_minute_150 rfl (fun q150 => ?_) (fun q150 => ?_)
          · replace hb148 := ite_p (P := fun r_ : Int32 => b148 = r_) q150 hb148
            refine or_iload E rfl dL_minute_158 ?_
            refine or_iconst (v := nI 1) E rfl dL_minute_160 ?_
            refine or_iadd E dL_minute_161 ?_
            refine or_iload E rfl dL_minute_162 ?_
            refine or_iadd E dL_minute_164 ?_
            refine or_aload_n E rfl dL_minute_165 ?_
            refine or_fV0r (cA_buyerCount (Z := Z)  h_x ) E G F lk_120_63 dL_minute_166 h_x.1 rfl rfl (by decide) (by decide) ⟨(Nat.le_of_ble_eq_true rfl), (Nat.le_of_ble_eq_true rfl)⟩ (Nat.le_of_ble_eq_true rfl) (fun _ => ?_) (fun h => absurd h (Nat.lt_irrefl 0))
            refine or_irem E (li_n0 hI) dL_minute_169 ?_
            obtain rfl : b148 = (le + (nI 1) + (nI i)) - (le + (nI 1) + (nI i)) / (A_buyerCount x I) * (A_buyerCount x I) := hb148
            exact or_lv _ rfl J148
          · replace hb148 := ite_n (P := fun r_ : Int32 => b148 = r_) q150 hb148
            refine or_iload E rfl dL_minute_153 ?_
            refine or_goto 170 E dL_minute_155 rfl ?_
            obtain rfl : b148 = nI i := hb148
            exact or_lv _ rfl J148
  try dsimp only [L_minute] at hk
  refine or_aload_n E rfl dL_minute_0 ?_
  refine or_fV0r (cA_minute (Z := Z)  h_x ) E G F lk_120_69 dL_minute_1 h_x.1 rfl rfl (by decide) (by decide) ⟨(Nat.le_of_ble_eq_true rfl), (Nat.le_of_ble_eq_true rfl)⟩ (Nat.le_of_ble_eq_true rfl) (fun _ => ?_) (fun h => absurd h (Nat.lt_irrefl 0))
  refine or_iconst (v := nI 1) E rfl dL_minute_4 ?_
  refine or_iadd E dL_minute_5 ?_
  refine or_istore_n E dL_minute_6 (by decide) ?_
  refine or_aload_n E rfl dL_minute_7 ?_
  refine or_fV0r (cA_openBarrel (Z := Z)  h_x ) E G F lk_120_72 dL_minute_8 h_x.1 rfl rfl (by decide) (by decide) ⟨(Nat.le_of_ble_eq_true rfl), (Nat.le_of_ble_eq_true rfl)⟩ (Nat.le_of_ble_eq_true rfl) (fun _ => ?_) (fun h => absurd h (Nat.lt_irrefl 0))
  refine or_istore_n E dL_minute_11 (by decide) ?_
  refine or_aload_n E rfl dL_minute_12 ?_
  refine or_fV0r (cA_leader (Z := Z)  h_x ) E G F lk_120_106 dL_minute_13 h_x.1 rfl rfl (by decide) (by decide) ⟨(Nat.le_of_ble_eq_true rfl), (Nat.le_of_ble_eq_true rfl)⟩ (Nat.le_of_ble_eq_true rfl) (fun _ => ?_) (fun h => absurd h (Nat.lt_irrefl 0))
  refine or_istore E dL_minute_16 (by decide) ?_
  refine or_aload_n E rfl dL_minute_18 ?_
  refine or_fV0r (cA_bid (Z := Z)  h_x ) E G F lk_120_112 dL_minute_19 h_x.1 rfl rfl (by decide) (by decide) ⟨(Nat.le_of_ble_eq_true rfl), (Nat.le_of_ble_eq_true rfl)⟩ (Nat.le_of_ble_eq_true rfl) (fun _ => ?_) (fun h => absurd h (Nat.lt_irrefl 0))
  refine or_istore E dL_minute_22 (by decide) ?_
  refine or_aload_n E rfl dL_minute_24 ?_
  refine or_fV0r (cA_quiet (Z := Z)  h_x ) E G F lk_120_136 dL_minute_25 h_x.1 rfl rfl (by decide) (by decide) ⟨(Nat.le_of_ble_eq_true rfl), (Nat.le_of_ble_eq_true rfl)⟩ (Nat.le_of_ble_eq_true rfl) (fun _ => ?_) (fun h => absurd h (Nat.lt_irrefl 0))
  refine or_istore E dL_minute_28 (by decide) ?_
  refine or_aload_n E rfl dL_minute_30 ?_
  refine or_fV0r (cA_queueLength (Z := Z)  h_x ) E G F lk_120_66 dL_minute_31 h_x.1 rfl rfl (by decide) (by decide) ⟨(Nat.le_of_ble_eq_true rfl), (Nat.le_of_ble_eq_true rfl)⟩ (Nat.le_of_ble_eq_true rfl) (fun _ => ?_) (fun h => absurd h (Nat.lt_irrefl 0))
  refine or_istore E dL_minute_34 (by decide) ?_
  refine or_aload_n E rfl dL_minute_36 ?_
  refine or_iconst (v := nI 0) E rfl dL_minute_37 ?_
  refine or_fV1r (cA_queuedBarrel (Z := Z)  h_x hI.1) E G F lk_120_139 dL_minute_38 h_x.1 rfl rfl (by decide) (by decide) ⟨(Nat.le_of_ble_eq_true rfl), (Nat.le_of_ble_eq_true rfl)⟩ (Nat.le_of_ble_eq_true rfl) (fun _ => ?_) (fun h => absurd h (Nat.lt_irrefl 0))
  refine or_istore E dL_minute_41 (by decide) ?_
  refine or_aload_n E rfl dL_minute_43 ?_
  refine or_fV0r (cA_sellerCoins (Z := Z)  h_x ) E G F lk_120_142 dL_minute_44 h_x.1 rfl rfl (by decide) (by decide) ⟨(Nat.le_of_ble_eq_true rfl), (Nat.le_of_ble_eq_true rfl)⟩ (Nat.le_of_ble_eq_true rfl) (fun _ => ?_) (fun h => absurd h (Nat.lt_irrefl 0))
  refine or_istore E dL_minute_47 (by decide) ?_
  refine or_aload_n E rfl dL_minute_49 ?_
  refine or_fV0r (cA_houseCoins (Z := Z)  h_x ) E G F lk_120_145 dL_minute_50 h_x.1 rfl rfl (by decide) (by decide) ⟨(Nat.le_of_ble_eq_true rfl), (Nat.le_of_ble_eq_true rfl)⟩ (Nat.le_of_ble_eq_true rfl) (fun _ => ?_) (fun h => absurd h (Nat.lt_irrefl 0))
  refine or_istore E dL_minute_53 (by decide) ?_
  obtain ⟨b55, hb55⟩ : ∃ y_ : Bool, y_ = if L_open m (A_minute x I + (nI 1)) I then false else if L_open m (A_minute x I + (nI 1) - (nI 1)) I then true else false := ⟨_, rfl⟩
  replace hk := lt_k (P := fun r : Bool × ow_I => ox_e K S V z 0 (some (.int (bi ((r).1)))) ((r).2)) hb55 hk
  have J55 : ow_W X 0 0 (S, I, V, z) 78 [(0, .ref x), (1, .ref m), (2, .int (A_minute x I + (nI 1))), (3, .int (A_openBarrel x I)), (4, .int (A_leader x I)), (5, .int (A_bid x I)), (6, .int (A_quiet x I)), (7, .int (A_queueLength x I)), (8, .int (A_queuedBarrel x (nI 0) I)), (9, .int (A_sellerCoins x I)), (10, .int (A_houseCoins x I))] [.int (bi b55)] := by
    refine or_istore E dL_minute_78 (by decide) ?_
    obtain ⟨b80, hb80⟩ : ∃ y_ : Bool, y_ = if b55 then if A_openBarrel x I < 0 then false else true else false := ⟨_, rfl⟩
    replace hk := lt_k (P := fun r : Bool × ow_I => ox_e K S V z 0 (some (.int (bi ((r).1)))) ((r).2)) hb80 hk
    have J80 : ow_W X 0 0 (S, I, V, z) 94 [(0, .ref x), (1, .ref m), (2, .int (A_minute x I + (nI 1))), (3, .int (A_openBarrel x I)), (4, .int (A_leader x I)), (5, .int (A_bid x I)), (6, .int (A_quiet x I)), (7, .int (A_queueLength x I)), (8, .int (A_queuedBarrel x (nI 0) I)), (9, .int (A_sellerCoins x I)), (10, .int (A_houseCoins x I)), (11, .int (bi b55))] [.int (bi b80)] := by
      refine or_istore E dL_minute_94 (by decide) ?_
      obtain ⟨b96, hb96⟩ : ∃ y_ : Bool, y_ = if A_minutesToHorn x I = nI 1 then true else false := ⟨_, rfl⟩
      replace hk := lt_k (P := fun r : Bool × ow_I => ox_e K S V z 0 (some (.int (bi ((r).1)))) ((r).2)) hb96 hk
      have J96 : ow_W X 0 0 (S, I, V, z) 109 [(0, .ref x), (1, .ref m), (2, .int (A_minute x I + (nI 1))), (3, .int (A_openBarrel x I)), (4, .int (A_leader x I)), (5, .int (A_bid x I)), (6, .int (A_quiet x I)), (7, .int (A_queueLength x I)), (8, .int (A_queuedBarrel x (nI 0) I)), (9, .int (A_sellerCoins x I)), (10, .int (A_houseCoins x I)), (11, .int (bi b55)), (12, .int (bi b80))] [.int (bi b96)] := by
        refine or_iload E rfl dL_minute_109 ?_
        refine or_icmp_eq 116 E dL_minute_111 rfl (fun q111 => ?_) (fun q111 => ?_)
        · replace hk := ite_p (P := fun r : Bool × ow_I => ox_e K S V z 0 (some (.int (bi ((r).1)))) ((r).2)) q111 hk
          refine or_iconst (v := -1) E rfl dL_minute_116 ?_
          refine or_istore E dL_minute_117 (by decide) ?_
          obtain ⟨b119, hb119⟩ : ∃ y_ : Bool × Int32, y_ = if L_open m (A_minute x I + (nI 1)) I then if A_openBarrel x I < 0 then (b80, (-1)) else lt (L_minute_L134 x m 7 I (A_minute x I + (nI 1)) (A_openBarrel x I) (A_leader x I) (A_bid x I) (A_quiet x I) (A_queueLength x I) (A_queuedBarrel x (nI 0) I) (A_sellerCoins x I) (A_houseCoins x I) b80 ((-1)) 0) (fun (r1 : Int32) => if 0 ≤ r1 then (false, r1) else if A_quiet x I + (nI 1) < I m 2 then (false, r1) else (true, r1)) else (b80, (-1)) := ⟨_, rfl⟩
          replace hk := lt_k (P := fun r : Bool × ow_I => ox_e K S V z 0 (some (.int (bi ((r).1)))) ((r).2)) hb119 hk
          have J119 : ow_W X 0 0 (S, I, V, z) 244 [(0, .ref x), (1, .ref m), (2, .int (A_minute x I + (nI 1))), (3, .int (A_openBarrel x I)), (4, .int (A_leader x I)), (5, .int (A_bid x I)), (6, .int (A_quiet x I)), (7, .int (A_queueLength x I)), (8, .int (A_queuedBarrel x (nI 0) I)), (9, .int (A_sellerCoins x I)), (10, .int (A_houseCoins x I)), (12, .int (bi b119.1)), (13, .int b119.2)] [] := by
            have hc119 : b119.1 = true → ¬ A_openBarrel x I < 0 := fun h hn => by rw [hb119] at h; simp only [if_pos hn, ite_self] at h; rw [hb80] at h; simp only [if_pos hn, ite_self] at h; exact absurd h Bool.false_ne_true
            obtain ⟨b244, hb244⟩ : ∃ y_ : Int32, y_ = if b119.2 < 0 then A_bid x I else A_nextBid x I := ⟨_, rfl⟩
            replace hk := lt_k (P := fun r : Bool × ow_I => ox_e K S V z 0 (some (.int (bi ((r).1)))) ((r).2)) hb244 hk
            have J244 : ow_W X 0 0 (S, I, V, z) 258 [(0, .ref x), (1, .ref m), (2, .int (A_minute x I + (nI 1))), (3, .int (A_openBarrel x I)), (4, .int (A_leader x I)), (5, .int (A_bid x I)), (6, .int (A_quiet x I)), (7, .int (A_queueLength x I)), (8, .int (A_queuedBarrel x (nI 0) I)), (9, .int (A_sellerCoins x I)), (10, .int (A_houseCoins x I)), (12, .int (bi b119.1)), (13, .int b119.2)] [.int b244] := by
              refine or_istore E dL_minute_258 (by decide) ?_
              obtain ⟨b260, hb260⟩ : ∃ y_ : Int32, y_ = if 0 ≤ A_leader x I then A_purse x (A_leader x I) I else nI 0 := ⟨_, rfl⟩
              replace hk := lt_k (P := fun r : Bool × ow_I => ox_e K S V z 0 (some (.int (bi ((r).1)))) ((r).2)) hb260 hk
              have J260 : ow_W X 0 0 (S, I, V, z) 275 [(0, .ref x), (1, .ref m), (2, .int (A_minute x I + (nI 1))), (3, .int (A_openBarrel x I)), (4, .int (A_leader x I)), (5, .int (A_bid x I)), (6, .int (A_quiet x I)), (7, .int (A_queueLength x I)), (8, .int (A_queuedBarrel x (nI 0) I)), (9, .int (A_sellerCoins x I)), (10, .int (A_houseCoins x I)), (12, .int (bi b119.1)), (13, .int b119.2), (14, .int b244)] [.int b260] := by
                refine or_istore E dL_minute_275 (by decide) ?_
                obtain ⟨b277, hb277⟩ : ∃ y_ : Int32, y_ = if 0 ≤ A_openBarrel x I then A_returns x (A_openBarrel x I) I else nI 0 := ⟨_, rfl⟩
                replace hk := lt_k (P := fun r : Bool × ow_I => ox_e K S V z 0 (some (.int (bi ((r).1)))) ((r).2)) hb277 hk
                have J277 : ow_W X 0 0 (S, I, V, z) 290 [(0, .ref x), (1, .ref m), (2, .int (A_minute x I + (nI 1))), (3, .int (A_openBarrel x I)), (4, .int (A_leader x I)), (5, .int (A_bid x I)), (6, .int (A_quiet x I)), (7, .int (A_queueLength x I)), (8, .int (A_queuedBarrel x (nI 0) I)), (9, .int (A_sellerCoins x I)), (10, .int (A_houseCoins x I)), (12, .int (bi b119.1)), (13, .int b119.2), (14, .int b244), (15, .int b260)] [.int b277] := by
                  refine or_istore E dL_minute_290 (by decide) ?_
                  obtain ⟨b292, hb292⟩ : ∃ y_ : Bool, y_ = if b119.1 then if A_leader x I < 0 then false else true else false := ⟨_, rfl⟩
                  replace hk := lt_k (P := fun r : Bool × ow_I => ox_e K S V z 0 (some (.int (bi ((r).1)))) ((r).2)) hb292 hk
                  have J292 : ow_W X 0 0 (S, I, V, z) 307 [(0, .ref x), (1, .ref m), (2, .int (A_minute x I + (nI 1))), (3, .int (A_openBarrel x I)), (4, .int (A_leader x I)), (5, .int (A_bid x I)), (6, .int (A_quiet x I)), (7, .int (A_queueLength x I)), (8, .int (A_queuedBarrel x (nI 0) I)), (9, .int (A_sellerCoins x I)), (10, .int (A_houseCoins x I)), (12, .int (bi b119.1)), (13, .int b119.2), (14, .int b244), (15, .int b260), (16, .int b277)] [.int (bi b292)] := by
                    refine or_istore E dL_minute_307 (by decide) ?_
                    refine or_aload_n E rfl dL_minute_309 ?_
                    refine or_iconst (v := nI 1) E rfl dL_minute_310 ?_
                    refine or_fV1r (cA_passMinutes (Z := Z)  h_x (li_X hI) (by decide) (by decide)) E G F lk_120_154 dL_minute_311 h_x.1 rfl rfl (by decide) (by decide) ⟨(Nat.le_of_ble_eq_true rfl), (Nat.le_of_ble_eq_true rfl)⟩ (Nat.le_of_ble_eq_true rfl) (fun _ => ?_) (fun h => absurd h (Nat.lt_irrefl 0))
                    obtain ⟨r2, hr2⟩ : ∃ y_ : Int32 × ow_I, y_ = A_passMinutes x (nI 1) I := ⟨_, rfl⟩
                    replace hk := lt_k (P := fun r : Bool × ow_I => ox_e K S V z 0 (some (.int (bi ((r).1)))) ((r).2)) hr2 hk
                    refine or_nmJ hr2 ?_
                    obtain ⟨b314, hb314⟩ : ∃ y_ : Bool, y_ = if b292 then true else false := ⟨_, rfl⟩
                    replace hk := lt_k (P := fun r : Bool × ow_I => ox_e K S V z 0 (some (.int (bi ((r).1)))) ((r).2)) hb314 hk
                    have J314 : ow_W X 0 0 (S, r2.2, V, z) 324 [(0, .ref x), (1, .ref m), (2, .int (A_minute x I + (nI 1))), (3, .int (A_openBarrel x I)), (4, .int (A_leader x I)), (5, .int (A_bid x I)), (6, .int (A_quiet x I)), (7, .int (A_queueLength x I)), (8, .int (A_queuedBarrel x (nI 0) I)), (9, .int (A_sellerCoins x I)), (10, .int (A_houseCoins x I)), (12, .int (bi b119.1)), (13, .int b119.2), (14, .int b244), (15, .int b260), (16, .int b277), (17, .int (bi b292))] [.int (bi b314), .int r2.1] := by
                      refine or_icmp_ne 347 E dL_minute_324 rfl (fun q324 => ?_) (fun q324 => ?_)
                      · replace hk := ite_n (P := fun r : Bool × ow_I => ox_e K S V z 0 (some (.int (bi ((r).1)))) ((r).2)) q324 hk
                        refine or_iconst (v := nI 0) E rfl dL_minute_347 ?_
                        try dsimp only at hk
                        exact or_xr E F (fun X' E' F' => or_zret E' F' dL_minute_348 (Nat.le_of_ble_eq_true rfl) (Nat.le_of_ble_eq_true rfl) (bi_nar false) (hk.1 rfl))
                      · replace hk := ite_p (P := fun r : Bool × ow_I => ox_e K S V z 0 (some (.int (bi ((r).1)))) ((r).2)) q324 hk
                        obtain ⟨b327, hb327⟩ : ∃ y_ : Bool, y_ = if A_minute x r2.2 = A_minute x I + (nI 1) then if bi (A_isOpen x r2.2) = bi (L_open m (A_minute x I + (nI 1)) r2.2) then true else false else false := ⟨_, rfl⟩
                        replace hk := lt_k (P := fun r : Bool × ow_I => ox_e K S V z 0 (some (.int (bi ((r).1)))) ((r).2)) hb327 hk
                        have J327t : b327 = true → ow_W X 0 0 (S, r2.2, V, z) 349 [(0, .ref x), (1, .ref m), (2, .int (A_minute x I + (nI 1))), (3, .int (A_openBarrel x I)), (4, .int (A_leader x I)), (5, .int (A_bid x I)), (6, .int (A_quiet x I)), (7, .int (A_queueLength x I)), (8, .int (A_queuedBarrel x (nI 0) I)), (9, .int (A_sellerCoins x I)), (10, .int (A_houseCoins x I)), (12, .int (bi b119.1)), (13, .int b119.2), (14, .int b244), (15, .int b260), (16, .int b277), (17, .int (bi b292))] [] := by
                          intro hb327v
                          replace hk := ite_p (P := fun r : Bool × ow_I => ox_e K S V z 0 (some (.int (bi ((r).1)))) ((r).2)) hb327v hk
                          obtain ⟨b349, hb349⟩ : ∃ y_ : Bool, y_ = if b292 then if A_stateOf x (A_openBarrel x I) r2.2 = nI 2 then if A_buyerOf x (A_openBarrel x I) r2.2 = A_leader x I then if A_priceOf x (A_openBarrel x I) r2.2 = A_bid x I then if A_purse x (A_leader x I) r2.2 = b260 - (L_cost m (A_bid x I) r2.2) then if A_sellerCoins x r2.2 = A_sellerCoins x I + (A_bid x I) then if A_houseCoins x r2.2 = A_houseCoins x I + (L_cost m (A_bid x I) r2.2) - (A_bid x I) then true else false else false else false else false else false else false else true := ⟨_, rfl⟩
                          replace hk := lt_k (P := fun r : Bool × ow_I => ox_e K S V z 0 (some (.int (bi ((r).1)))) ((r).2)) hb349 hk
                          have J349t : b349 = true → ow_W X 0 0 (S, r2.2, V, z) 434 [(0, .ref x), (1, .ref m), (2, .int (A_minute x I + (nI 1))), (3, .int (A_openBarrel x I)), (4, .int (A_leader x I)), (5, .int (A_bid x I)), (6, .int (A_quiet x I)), (7, .int (A_queueLength x I)), (8, .int (A_queuedBarrel x (nI 0) I)), (9, .int (A_sellerCoins x I)), (10, .int (A_houseCoins x I)), (12, .int (bi b119.1)), (13, .int b119.2), (14, .int b244), (15, .int b260), (16, .int b277), (17, .int (bi b292))] [] := by
                            intro hb349v
                            replace hk := ite_p (P := fun r : Bool × ow_I => ox_e K S V z 0 (some (.int (bi ((r).1)))) ((r).2)) hb349v hk
                            obtain ⟨b434, hb434⟩ : ∃ y_ : Bool, y_ = if b292 then true else if A_sellerCoins x r2.2 = A_sellerCoins x I then if A_houseCoins x r2.2 = A_houseCoins x I then true else false else false := ⟨_, rfl⟩
                            replace hk := lt_k (P := fun r : Bool × ow_I => ox_e K S V z 0 (some (.int (bi ((r).1)))) ((r).2)) hb434 hk
                            have J434t : b434 = true → ow_W X 0 0 (S, r2.2, V, z) 459 [(0, .ref x), (1, .ref m), (2, .int (A_minute x I + (nI 1))), (3, .int (A_openBarrel x I)), (4, .int (A_leader x I)), (5, .int (A_bid x I)), (6, .int (A_quiet x I)), (7, .int (A_queueLength x I)), (8, .int (A_queuedBarrel x (nI 0) I)), (9, .int (A_sellerCoins x I)), (10, .int (A_houseCoins x I)), (12, .int (bi b119.1)), (13, .int b119.2), (14, .int b244), (15, .int b260), (16, .int b277), (17, .int (bi b292))] [] := by
                              intro hb434v
                              replace hk := ite_p (P := fun r : Bool × ow_I => ox_e K S V z 0 (some (.int (bi ((r).1)))) ((r).2)) hb434v hk
                              obtain ⟨b459, hb459⟩ : ∃ y_ : Bool, y_ = if b119.1 then if 0 ≤ A_leader x I then false else if nI 2 ≤ b277 then false else true else false := ⟨_, rfl⟩
                              replace hk := lt_k (P := fun r : Bool × ow_I => ox_e K S V z 0 (some (.int (bi ((r).1)))) ((r).2)) hb459 hk
                              have J459 : ow_W X 0 0 (S, r2.2, V, z) 480 [(0, .ref x), (1, .ref m), (2, .int (A_minute x I + (nI 1))), (3, .int (A_openBarrel x I)), (4, .int (A_leader x I)), (5, .int (A_bid x I)), (6, .int (A_quiet x I)), (7, .int (A_queueLength x I)), (8, .int (A_queuedBarrel x (nI 0) I)), (9, .int (A_sellerCoins x I)), (10, .int (A_houseCoins x I)), (12, .int (bi b119.1)), (13, .int b119.2), (14, .int b244), (15, .int b260), (16, .int b277), (17, .int (bi b292))] [.int (bi b459)] := by
                                refine or_istore E dL_minute_480 (by decide) ?_
                                obtain ⟨b482, hb482⟩ : ∃ y_ : Bool, y_ = if b119.1 then if 0 ≤ A_leader x I then true else if A_returns x (A_openBarrel x I) r2.2 = b277 + (nI 1) then if b459 then if A_stateOf x (A_openBarrel x I) r2.2 = nI 0 then true else false else if A_stateOf x (A_openBarrel x I) r2.2 = nI 3 then true else false else false else true := ⟨_, rfl⟩
                                replace hk := lt_k (P := fun r : Bool × ow_I => ox_e K S V z 0 (some (.int (bi ((r).1)))) ((r).2)) hb482 hk
                                have J482t : b482 = true → ow_W X 0 0 (S, r2.2, V, z) 524 [(0, .ref x), (1, .ref m), (2, .int (A_minute x I + (nI 1))), (3, .int (A_openBarrel x I)), (4, .int (A_leader x I)), (5, .int (A_bid x I)), (6, .int (A_quiet x I)), (7, .int (A_queueLength x I)), (8, .int (A_queuedBarrel x (nI 0) I)), (9, .int (A_sellerCoins x I)), (10, .int (A_houseCoins x I)), (12, .int (bi b119.1)), (13, .int b119.2), (14, .int b244), (15, .int b260), (16, .int b277), (17, .int (bi b292)), (18, .int (bi b459))] [] := by
                                  intro hb482v
                                  replace hk := ite_p (P := fun r : Bool × ow_I => ox_e K S V z 0 (some (.int (bi ((r).1)))) ((r).2)) hb482v hk
                                  obtain ⟨b524, hb524⟩ : ∃ y_ : Bool, y_ = if L_open m (A_minute x I + (nI 1)) r2.2 then if 0 ≤ A_openBarrel x I then false else true else false := ⟨_, rfl⟩
                                  replace hk := lt_k (P := fun r : Bool × ow_I => ox_e K S V z 0 (some (.int (bi ((r).1)))) ((r).2)) hb524 hk
                                  have J524t : b524 = true → ow_W X 0 0 (S, r2.2, V, z) 536 [(0, .ref x), (1, .ref m), (2, .int (A_minute x I + (nI 1))), (3, .int (A_openBarrel x I)), (4, .int (A_leader x I)), (5, .int (A_bid x I)), (6, .int (A_quiet x I)), (7, .int (A_queueLength x I)), (8, .int (A_queuedBarrel x (nI 0) I)), (9, .int (A_sellerCoins x I)), (10, .int (A_houseCoins x I)), (12, .int (bi b119.1)), (13, .int b119.2), (14, .int b244), (15, .int b260), (16, .int b277), (17, .int (bi b292)), (18, .int (bi b459))] [] := by
                                    intro hb524v
                                    replace hk := ite_p (P := fun r : Bool × ow_I => ox_e K S V z 0 (some (.int (bi ((r).1)))) ((r).2)) hb524v hk
                                    refine or_aload_n E rfl dL_minute_536 ?_
                                    refine or_fV0r (cA_openBarrel (Z := Z)  h_x ) E G F lk_120_72 dL_minute_537 h_x.1 rfl rfl (by decide) (by decide) ⟨(Nat.le_of_ble_eq_true rfl), (Nat.le_of_ble_eq_true rfl)⟩ (Nat.le_of_ble_eq_true rfl) (fun _ => ?_) (fun h => absurd h (Nat.lt_irrefl 0))
                                    refine or_iload E rfl dL_minute_540 ?_
                                    refine or_icmp_ne 605 E dL_minute_542 rfl (fun q542 => ?_) (fun q542 => ?_)
                                    · replace hk := ite_n (P := fun r : Bool × ow_I => ox_e K S V z 0 (some (.int (bi ((r).1)))) ((r).2)) q542 hk
                                      refine or_iconst (v := nI 0) E rfl dL_minute_605 ?_
                                      try dsimp only at hk
                                      exact or_xr E F (fun X' E' F' => or_zret E' F' dL_minute_606 (Nat.le_of_ble_eq_true rfl) (Nat.le_of_ble_eq_true rfl) (bi_nar false) (hk.1 rfl))
                                    · replace hk := ite_p (P := fun r : Bool × ow_I => ox_e K S V z 0 (some (.int (bi ((r).1)))) ((r).2)) q542 hk
                                      refine or_iload E rfl dL_minute_545 ?_
                                      refine or_if_lt 586 E dL_minute_547 rfl (fun q547 => ?_) (fun q547 => ?_)
                                      · replace hk := ite_p (P := fun r : Bool × ow_I => ox_e K S V z 0 (some (.int (bi ((r).1)))) ((r).2)) q547 hk
                                        refine or_aload_n E rfl dL_minute_586 ?_
                                        refine or_fV0r (cA_queueLength (Z := Z)  h_x ) E G F lk_120_66 dL_minute_587 h_x.1 rfl rfl (by decide) (by decide) ⟨(Nat.le_of_ble_eq_true rfl), (Nat.le_of_ble_eq_true rfl)⟩ (Nat.le_of_ble_eq_true rfl) (fun _ => ?_) (fun h => absurd h (Nat.lt_irrefl 0))
                                        refine or_iconst (v := nI 0) E rfl dL_minute_590 ?_
                                        refine or_iload E rfl dL_minute_591 ?_
                                        refine or_iconst (v := nI 1) E rfl dL_minute_593 ?_
                                        refine or_isub E dL_minute_594 ?_
                                        refine or_mmax E lm_120_85 dL_minute_595 (Nat.le_of_ble_eq_true rfl) ⟨(Nat.le_of_ble_eq_true rfl), (Nat.le_of_ble_eq_true rfl)⟩ (Nat.le_of_ble_eq_true rfl) ?_
                                        refine or_icmp_ne 605 E dL_minute_598 rfl (fun q598 => ?_) (fun q598 => ?_)
                                        · replace hk := ite_n (P := fun r : Bool × ow_I => ox_e K S V z 0 (some (.int (bi ((r).1)))) ((r).2)) q598 hk
                                          refine or_iconst (v := nI 0) E rfl dL_minute_605 ?_
                                          try dsimp only at hk
                                          exact or_xr E F (fun X' E' F' => or_zret E' F' dL_minute_606 (Nat.le_of_ble_eq_true rfl) (Nat.le_of_ble_eq_true rfl) (bi_nar false) (hk.1 rfl))
                                        · replace hk := ite_p (P := fun r : Bool × ow_I => ox_e K S V z 0 (some (.int (bi ((r).1)))) ((r).2)) q598 hk
                                          refine or_iconst (v := nI 1) E rfl dL_minute_601 ?_
                                          refine or_goto 606 E dL_minute_602 rfl ?_
                                          try dsimp only at hk
                                          exact or_xr E F (fun X' E' F' => or_zret E' F' dL_minute_606 (Nat.le_of_ble_eq_true rfl) (Nat.le_of_ble_eq_true rfl) (bi_nar true) (hk.1 rfl))
                                      · replace hk := ite_n (P := fun r : Bool × ow_I => ox_e K S V z 0 (some (.int (bi ((r).1)))) ((r).2)) q547 hk
                                        refine or_aload_n E rfl dL_minute_550 ?_
                                        refine or_fV0r (cA_quiet (Z := Z)  h_x ) E G F lk_120_136 dL_minute_551 h_x.1 rfl rfl (by decide) (by decide) ⟨(Nat.le_of_ble_eq_true rfl), (Nat.le_of_ble_eq_true rfl)⟩ (Nat.le_of_ble_eq_true rfl) (fun _ => ?_) (fun h => absurd h (Nat.lt_irrefl 0))
                                        refine or_if_ne 605 E dL_minute_554 rfl (fun q554 => ?_) (fun q554 => ?_)
                                        · replace hk := ite_n (P := fun r : Bool × ow_I => ox_e K S V z 0 (some (.int (bi ((r).1)))) ((r).2)) q554 hk
                                          refine or_iconst (v := nI 0) E rfl dL_minute_605 ?_
                                          try dsimp only at hk
                                          exact or_xr E F (fun X' E' F' => or_zret E' F' dL_minute_606 (Nat.le_of_ble_eq_true rfl) (Nat.le_of_ble_eq_true rfl) (bi_nar false) (hk.1 rfl))
                                        · replace hk := ite_p (P := fun r : Bool × ow_I => ox_e K S V z 0 (some (.int (bi ((r).1)))) ((r).2)) q554 hk
                                          refine or_aload_n E rfl dL_minute_557 ?_
                                          refine or_fV0r (cA_leader (Z := Z)  h_x ) E G F lk_120_106 dL_minute_558 h_x.1 rfl rfl (by decide) (by decide) ⟨(Nat.le_of_ble_eq_true rfl), (Nat.le_of_ble_eq_true rfl)⟩ (Nat.le_of_ble_eq_true rfl) (fun _ => ?_) (fun h => absurd h (Nat.lt_irrefl 0))
                                          refine or_iconst (v := -1) E rfl dL_minute_561 ?_
                                          refine or_icmp_ne 605 E dL_minute_562 rfl (fun q562 => ?_) (fun q562 => ?_)
                                          · replace hk := ite_n (P := fun r : Bool × ow_I => ox_e K S V z 0 (some (.int (bi ((r).1)))) ((r).2)) q562 hk
                                            refine or_iconst (v := nI 0) E rfl dL_minute_605 ?_
                                            try dsimp only at hk
                                            exact or_xr E F (fun X' E' F' => or_zret E' F' dL_minute_606 (Nat.le_of_ble_eq_true rfl) (Nat.le_of_ble_eq_true rfl) (bi_nar false) (hk.1 rfl))
                                          · replace hk := ite_p (P := fun r : Bool × ow_I => ox_e K S V z 0 (some (.int (bi ((r).1)))) ((r).2)) q562 hk
                                            refine or_aload_n E rfl dL_minute_565 ?_
                                            refine or_fV0r (cA_bid (Z := Z)  h_x ) E G F lk_120_112 dL_minute_566 h_x.1 rfl rfl (by decide) (by decide) ⟨(Nat.le_of_ble_eq_true rfl), (Nat.le_of_ble_eq_true rfl)⟩ (Nat.le_of_ble_eq_true rfl) (fun _ => ?_) (fun h => absurd h (Nat.lt_irrefl 0))
                                            refine or_iconst (v := -1) E rfl dL_minute_569 ?_
                                            refine or_icmp_ne 605 E dL_minute_570 rfl (fun q570 => ?_) (fun q570 => ?_)
                                            · replace hk := ite_n (P := fun r : Bool × ow_I => ox_e K S V z 0 (some (.int (bi ((r).1)))) ((r).2)) q570 hk
                                              refine or_iconst (v := nI 0) E rfl dL_minute_605 ?_
                                              try dsimp only at hk
                                              exact or_xr E F (fun X' E' F' => or_zret E' F' dL_minute_606 (Nat.le_of_ble_eq_true rfl) (Nat.le_of_ble_eq_true rfl) (bi_nar false) (hk.1 rfl))
                                            · replace hk := ite_p (P := fun r : Bool × ow_I => ox_e K S V z 0 (some (.int (bi ((r).1)))) ((r).2)) q570 hk
                                              refine or_aload_n E rfl dL_minute_573 ?_
                                              refine or_fV0r (cA_nextBid (Z := Z)  h_x (by subst hr2; exact hJ.1.1)) E G F lk_120_133 dL_minute_574 h_x.1 rfl rfl (by decide) (by decide) ⟨(Nat.le_of_ble_eq_true rfl), (Nat.le_of_ble_eq_true rfl)⟩ (Nat.le_of_ble_eq_true rfl) (fun _ => ?_) (fun h => absurd h (Nat.lt_irrefl 0))
                                              refine or_aload_n E rfl dL_minute_577 ?_
                                              refine or_iload E rfl dL_minute_578 ?_
                                              refine or_fV1r (cA_reserve (Z := Z)  h_x (by subst hr2; exact hJ.1.1) (by subst hr2; exact (qb_J hI h10 q547))) E G F lk_120_109 dL_minute_580 h_x.1 rfl rfl (by decide) (by decide) ⟨(Nat.le_of_ble_eq_true rfl), (Nat.le_of_ble_eq_true rfl)⟩ (Nat.le_of_ble_eq_true rfl) (fun _ => ?_) (fun h => absurd h (Nat.lt_irrefl 0))
                                              refine or_icmp_ne 605 E dL_minute_583 rfl (fun q583 => ?_) (fun q583 => ?_)
                                              · replace hk := ite_n (P := fun r : Bool × ow_I => ox_e K S V z 0 (some (.int (bi ((r).1)))) ((r).2)) q583 hk
                                                refine or_iconst (v := nI 0) E rfl dL_minute_605 ?_
                                                try dsimp only at hk
                                                exact or_xr E F (fun X' E' F' => or_zret E' F' dL_minute_606 (Nat.le_of_ble_eq_true rfl) (Nat.le_of_ble_eq_true rfl) (bi_nar false) (hk.1 rfl))
                                              · replace hk := ite_p (P := fun r : Bool × ow_I => ox_e K S V z 0 (some (.int (bi ((r).1)))) ((r).2)) q583 hk
                                                refine or_aload_n E rfl dL_minute_586 ?_
                                                refine or_fV0r (cA_queueLength (Z := Z)  h_x ) E G F lk_120_66 dL_minute_587 h_x.1 rfl rfl (by decide) (by decide) ⟨(Nat.le_of_ble_eq_true rfl), (Nat.le_of_ble_eq_true rfl)⟩ (Nat.le_of_ble_eq_true rfl) (fun _ => ?_) (fun h => absurd h (Nat.lt_irrefl 0))
                                                refine or_iconst (v := nI 0) E rfl dL_minute_590 ?_
                                                refine or_iload E rfl dL_minute_591 ?_
                                                refine or_iconst (v := nI 1) E rfl dL_minute_593 ?_
                                                refine or_isub E dL_minute_594 ?_
                                                refine or_mmax E lm_120_85 dL_minute_595 (Nat.le_of_ble_eq_true rfl) ⟨(Nat.le_of_ble_eq_true rfl), (Nat.le_of_ble_eq_true rfl)⟩ (Nat.le_of_ble_eq_true rfl) ?_
                                                refine or_icmp_ne 605 E dL_minute_598 rfl (fun q598 => ?_) (fun q598 => ?_)
                                                · replace hk := ite_n (P := fun r : Bool × ow_I => ox_e K S V z 0 (some (.int (bi ((r).1)))) ((r).2)) q598 hk
                                                  refine or_iconst (v := nI 0) E rfl dL_minute_605 ?_
                                                  try dsimp only at hk
                                                  exact or_xr E F (fun X' E' F' => or_zret E' F' dL_minute_606 (Nat.le_of_ble_eq_true rfl) (Nat.le_of_ble_eq_true rfl) (bi_nar false) (hk.1 rfl))
                                                · replace hk := ite_p (P := fun r : Bool × ow_I => ox_e K S V z 0 (some (.int (bi ((r).1)))) ((r).2)) q598 hk
                                                  refine or_iconst (v := nI 1) E rfl dL_minute_601 ?_
                                                  refine or_goto 606 E dL_minute_602 rfl ?_
                                                  try dsimp only at hk
                                                  exact or_xr E F (fun X' E' F' => or_zret E' F' dL_minute_606 (Nat.le_of_ble_eq_true rfl) (Nat.le_of_ble_eq_true rfl) (bi_nar true) (hk.1 rfl))
                                  have J524f : b524 = false → ow_W X 0 0 (S, r2.2, V, z) 607 [(0, .ref x), (1, .ref m), (2, .int (A_minute x I + (nI 1))), (3, .int (A_openBarrel x I)), (4, .int (A_leader x I)), (5, .int (A_bid x I)), (6, .int (A_quiet x I)), (7, .int (A_queueLength x I)), (8, .int (A_queuedBarrel x (nI 0) I)), (9, .int (A_sellerCoins x I)), (10, .int (A_houseCoins x I)), (12, .int (bi b119.1)), (13, .int b119.2), (14, .int b244), (15, .int b260), (16, .int b277), (17, .int (bi b292)), (18, .int (bi b459))] [] := by
                                    intro hb524v
                                    replace hk := ite_n (P := fun r : Bool × ow_I => ox_e K S V z 0 (some (.int (bi ((r).1)))) ((r).2)) (bz_neg hb524v) hk
                                    refine or_iload E rfl dL_minute_607 ?_
                                    refine or_if_eqZ 661 E dL_minute_609 rfl (fun q609 => ?_) (fun q609 => ?_)
                                    · replace hk := ite_n (P := fun r : Bool × ow_I => ox_e K S V z 0 (some (.int (bi ((r).1)))) ((r).2)) (bz_neg q609) hk
                                      refine or_aload_n E rfl dL_minute_661 ?_
                                      refine or_fV0r (cA_openBarrel (Z := Z)  h_x ) E G F lk_120_72 dL_minute_662 h_x.1 rfl rfl (by decide) (by decide) ⟨(Nat.le_of_ble_eq_true rfl), (Nat.le_of_ble_eq_true rfl)⟩ (Nat.le_of_ble_eq_true rfl) (fun _ => ?_) (fun h => absurd h (Nat.lt_irrefl 0))
                                      refine or_iload_n E rfl dL_minute_665 ?_
                                      refine or_icmp_ne 678 E dL_minute_666 rfl (fun q666 => ?_) (fun q666 => ?_)
                                      · replace hk := ite_n (P := fun r : Bool × ow_I => ox_e K S V z 0 (some (.int (bi ((r).1)))) ((r).2)) q666 hk
                                        refine or_iconst (v := nI 0) E rfl dL_minute_678 ?_
                                        try dsimp only at hk
                                        exact or_xr E F (fun X' E' F' => or_zret E' F' dL_minute_679 (Nat.le_of_ble_eq_true rfl) (Nat.le_of_ble_eq_true rfl) (bi_nar false) (hk.1 rfl))
                                      · replace hk := ite_p (P := fun r : Bool × ow_I => ox_e K S V z 0 (some (.int (bi ((r).1)))) ((r).2)) q666 hk
                                        refine or_aload_n E rfl dL_minute_669 ?_
                                        refine or_fV0r (cA_queueLength (Z := Z)  h_x ) E G F lk_120_66 dL_minute_670 h_x.1 rfl rfl (by decide) (by decide) ⟨(Nat.le_of_ble_eq_true rfl), (Nat.le_of_ble_eq_true rfl)⟩ (Nat.le_of_ble_eq_true rfl) (fun _ => ?_) (fun h => absurd h (Nat.lt_irrefl 0))
                                        refine or_iload E rfl dL_minute_673 ?_
                                        refine or_icmp_eq 680 E dL_minute_675 rfl (fun q675 => ?_) (fun q675 => ?_)
                                        · replace hk := ite_p (P := fun r : Bool × ow_I => ox_e K S V z 0 (some (.int (bi ((r).1)))) ((r).2)) q675 hk
                                          refine or_iload_n E rfl dL_minute_680 ?_
                                          refine or_if_lt 732 E dL_minute_681 rfl (fun q681 => ?_) (fun q681 => ?_)
                                          · replace hk := ite_p (P := fun r : Bool × ow_I => ox_e K S V z 0 (some (.int (bi ((r).1)))) ((r).2)) q681 hk
                                            refine or_iconst (v := nI 1) E rfl dL_minute_732 ?_
                                            refine or_goto 737 E dL_minute_733 rfl ?_
                                            try dsimp only at hk
                                            exact or_xr E F (fun X' E' F' => or_zret E' F' dL_minute_737 (Nat.le_of_ble_eq_true rfl) (Nat.le_of_ble_eq_true rfl) (bi_nar true) (hk.1 rfl))
                                          · replace hk := ite_n (P := fun r : Bool × ow_I => ox_e K S V z 0 (some (.int (bi ((r).1)))) ((r).2)) q681 hk
                                            refine or_aload_n E rfl dL_minute_684 ?_
                                            refine or_fV0r (cA_bid (Z := Z)  h_x ) E G F lk_120_112 dL_minute_685 h_x.1 rfl rfl (by decide) (by decide) ⟨(Nat.le_of_ble_eq_true rfl), (Nat.le_of_ble_eq_true rfl)⟩ (Nat.le_of_ble_eq_true rfl) (fun _ => ?_) (fun h => absurd h (Nat.lt_irrefl 0))
                                            refine or_iload E rfl dL_minute_688 ?_
                                            refine or_icmp_ne 736 E dL_minute_690 rfl (fun q690 => ?_) (fun q690 => ?_)
                                            · replace hk := ite_n (P := fun r : Bool × ow_I => ox_e K S V z 0 (some (.int (bi ((r).1)))) ((r).2)) q690 hk
                                              refine or_iconst (v := nI 0) E rfl dL_minute_736 ?_
                                              try dsimp only at hk
                                              exact or_xr E F (fun X' E' F' => or_zret E' F' dL_minute_737 (Nat.le_of_ble_eq_true rfl) (Nat.le_of_ble_eq_true rfl) (bi_nar false) (hk.1 rfl))
                                            · replace hk := ite_p (P := fun r : Bool × ow_I => ox_e K S V z 0 (some (.int (bi ((r).1)))) ((r).2)) q690 hk
                                              refine or_aload_n E rfl dL_minute_693 ?_
                                              refine or_fV0r (cA_leader (Z := Z)  h_x ) E G F lk_120_106 dL_minute_694 h_x.1 rfl rfl (by decide) (by decide) ⟨(Nat.le_of_ble_eq_true rfl), (Nat.le_of_ble_eq_true rfl)⟩ (Nat.le_of_ble_eq_true rfl) (fun _ => ?_) (fun h => absurd h (Nat.lt_irrefl 0))
                                              refine or_iload E rfl dL_minute_697 ?_
                                              refine or_if_lt 707 E dL_minute_699 rfl (fun q699 => ?_) (fun q699 => ?_)
                                              · replace hk := ite_p (P := fun r : Bool × ow_I => ox_e K S V z 0 (some (.int (bi ((r).1)))) ((r).2)) q699 hk
                                                refine or_iload E rfl dL_minute_707 ?_
                                                refine or_icmp_ne 736 E dL_minute_709 rfl (fun q709 => ?_) (fun q709 => ?_)
                                                · replace hk := ite_n (P := fun r : Bool × ow_I => ox_e K S V z 0 (some (.int (bi ((r).1)))) ((r).2)) q709 hk
                                                  refine or_iconst (v := nI 0) E rfl dL_minute_736 ?_
                                                  try dsimp only at hk
                                                  exact or_xr E F (fun X' E' F' => or_zret E' F' dL_minute_737 (Nat.le_of_ble_eq_true rfl) (Nat.le_of_ble_eq_true rfl) (bi_nar false) (hk.1 rfl))
                                                · replace hk := ite_p (P := fun r : Bool × ow_I => ox_e K S V z 0 (some (.int (bi ((r).1)))) ((r).2)) q709 hk
                                                  refine or_aload_n E rfl dL_minute_712 ?_
                                                  refine or_fV0r (cA_quiet (Z := Z)  h_x ) E G F lk_120_136 dL_minute_713 h_x.1 rfl rfl (by decide) (by decide) ⟨(Nat.le_of_ble_eq_true rfl), (Nat.le_of_ble_eq_true rfl)⟩ (Nat.le_of_ble_eq_true rfl) (fun _ => ?_) (fun h => absurd h (Nat.lt_irrefl 0))
                                                  refine or_iload E rfl dL_minute_716 ?_
                                                  refine or_if_lt 725 E dL_minute_718 rfl (fun q718 => ?_) (fun q718 => ?_)
                                                  · replace hk := ite_p (P := fun r : Bool × ow_I => ox_e K S V z 0 (some (.int (bi ((r).1)))) ((r).2)) q718 hk
                                                    refine or_iload E rfl dL_minute_725 ?_
                                                    refine or_iconst (v := nI 1) E rfl dL_minute_727 ?_
                                                    refine or_iadd E dL_minute_728 ?_
                                                    refine or_icmp_ne 736 E dL_minute_729 rfl (fun q729 => ?_) (fun q729 => ?_)
                                                    · replace hk := ite_n (P := fun r : Bool × ow_I => ox_e K S V z 0 (some (.int (bi ((r).1)))) ((r).2)) q729 hk
                                                      refine or_iconst (v := nI 0) E rfl dL_minute_736 ?_
                                                      try dsimp only at hk
                                                      exact or_xr E F (fun X' E' F' => or_zret E' F' dL_minute_737 (Nat.le_of_ble_eq_true rfl) (Nat.le_of_ble_eq_true rfl) (bi_nar false) (hk.1 rfl))
                                                    · replace hk := ite_p (P := fun r : Bool × ow_I => ox_e K S V z 0 (some (.int (bi ((r).1)))) ((r).2)) q729 hk
                                                      refine or_iconst (v := nI 1) E rfl dL_minute_732 ?_
                                                      refine or_goto 737 E dL_minute_733 rfl ?_
                                                      try dsimp only at hk
                                                      exact or_xr E F (fun X' E' F' => or_zret E' F' dL_minute_737 (Nat.le_of_ble_eq_true rfl) (Nat.le_of_ble_eq_true rfl) (bi_nar true) (hk.1 rfl))
                                                  · replace hk := ite_n (P := fun r : Bool × ow_I => ox_e K S V z 0 (some (.int (bi ((r).1)))) ((r).2)) q718 hk
                                                    refine or_iconst (v := nI 0) E rfl dL_minute_721 ?_
                                                    refine or_goto 729 E dL_minute_722 rfl ?_
                                                    refine or_icmp_ne 736 E dL_minute_729 rfl (fun q729 => ?_) (fun q729 => ?_)
                                                    · replace hk := ite_n (P := fun r : Bool × ow_I => ox_e K S V z 0 (some (.int (bi ((r).1)))) ((r).2)) q729 hk
                                                      refine or_iconst (v := nI 0) E rfl dL_minute_736 ?_
                                                      try dsimp only at hk
                                                      exact or_xr E F (fun X' E' F' => or_zret E' F' dL_minute_737 (Nat.le_of_ble_eq_true rfl) (Nat.le_of_ble_eq_true rfl) (bi_nar false) (hk.1 rfl))
                                                    · replace hk := ite_p (P := fun r : Bool × ow_I => ox_e K S V z 0 (some (.int (bi ((r).1)))) ((r).2)) q729 hk
                                                      refine or_iconst (v := nI 1) E rfl dL_minute_732 ?_
                                                      refine or_goto 737 E dL_minute_733 rfl ?_
                                                      try dsimp only at hk
                                                      exact or_xr E F (fun X' E' F' => or_zret E' F' dL_minute_737 (Nat.le_of_ble_eq_true rfl) (Nat.le_of_ble_eq_true rfl) (bi_nar true) (hk.1 rfl))
                                              · replace hk := ite_n (P := fun r : Bool × ow_I => ox_e K S V z 0 (some (.int (bi ((r).1)))) ((r).2)) q699 hk
                                                refine or_iload E rfl dL_minute_702 ?_
                                                refine or_goto 709 E dL_minute_704 rfl ?_
                                                refine or_icmp_ne 736 E dL_minute_709 rfl (fun q709 => ?_) (fun q709 => ?_)
                                                · replace hk := ite_n (P := fun r : Bool × ow_I => ox_e K S V z 0 (some (.int (bi ((r).1)))) ((r).2)) q709 hk
                                                  refine or_iconst (v := nI 0) E rfl dL_minute_736 ?_
                                                  try dsimp only at hk
                                                  exact or_xr E F (fun X' E' F' => or_zret E' F' dL_minute_737 (Nat.le_of_ble_eq_true rfl) (Nat.le_of_ble_eq_true rfl) (bi_nar false) (hk.1 rfl))
                                                · replace hk := ite_p (P := fun r : Bool × ow_I => ox_e K S V z 0 (some (.int (bi ((r).1)))) ((r).2)) q709 hk
                                                  refine or_aload_n E rfl dL_minute_712 ?_
                                                  refine or_fV0r (cA_quiet (Z := Z)  h_x ) E G F lk_120_136 dL_minute_713 h_x.1 rfl rfl (by decide) (by decide) ⟨(Nat.le_of_ble_eq_true rfl), (Nat.le_of_ble_eq_true rfl)⟩ (Nat.le_of_ble_eq_true rfl) (fun _ => ?_) (fun h => absurd h (Nat.lt_irrefl 0))
                                                  refine or_iload E rfl dL_minute_716 ?_
                                                  refine or_if_lt 725 E dL_minute_718 rfl (fun q718 => ?_) (fun q718 => ?_)
                                                  · replace hk := ite_p (P := fun r : Bool × ow_I => ox_e K S V z 0 (some (.int (bi ((r).1)))) ((r).2)) q718 hk
                                                    refine or_iload E rfl dL_minute_725 ?_
                                                    refine or_iconst (v := nI 1) E rfl dL_minute_727 ?_
                                                    refine or_iadd E dL_minute_728 ?_
                                                    refine or_icmp_ne 736 E dL_minute_729 rfl (fun q729 => ?_) (fun q729 => ?_)
                                                    · replace hk := ite_n (P := fun r : Bool × ow_I => ox_e K S V z 0 (some (.int (bi ((r).1)))) ((r).2)) q729 hk
                                                      refine or_iconst (v := nI 0) E rfl dL_minute_736 ?_
                                                      try dsimp only at hk
                                                      exact or_xr E F (fun X' E' F' => or_zret E' F' dL_minute_737 (Nat.le_of_ble_eq_true rfl) (Nat.le_of_ble_eq_true rfl) (bi_nar false) (hk.1 rfl))
                                                    · replace hk := ite_p (P := fun r : Bool × ow_I => ox_e K S V z 0 (some (.int (bi ((r).1)))) ((r).2)) q729 hk
                                                      refine or_iconst (v := nI 1) E rfl dL_minute_732 ?_
                                                      refine or_goto 737 E dL_minute_733 rfl ?_
                                                      try dsimp only at hk
                                                      exact or_xr E F (fun X' E' F' => or_zret E' F' dL_minute_737 (Nat.le_of_ble_eq_true rfl) (Nat.le_of_ble_eq_true rfl) (bi_nar true) (hk.1 rfl))
                                                  · replace hk := ite_n (P := fun r : Bool × ow_I => ox_e K S V z 0 (some (.int (bi ((r).1)))) ((r).2)) q718 hk
                                                    refine or_iconst (v := nI 0) E rfl dL_minute_721 ?_
                                                    refine or_goto 729 E dL_minute_722 rfl ?_
                                                    refine or_icmp_ne 736 E dL_minute_729 rfl (fun q729 => ?_) (fun q729 => ?_)
                                                    · replace hk := ite_n (P := fun r : Bool × ow_I => ox_e K S V z 0 (some (.int (bi ((r).1)))) ((r).2)) q729 hk
                                                      refine or_iconst (v := nI 0) E rfl dL_minute_736 ?_
                                                      try dsimp only at hk
                                                      exact or_xr E F (fun X' E' F' => or_zret E' F' dL_minute_737 (Nat.le_of_ble_eq_true rfl) (Nat.le_of_ble_eq_true rfl) (bi_nar false) (hk.1 rfl))
                                                    · replace hk := ite_p (P := fun r : Bool × ow_I => ox_e K S V z 0 (some (.int (bi ((r).1)))) ((r).2)) q729 hk
                                                      refine or_iconst (v := nI 1) E rfl dL_minute_732 ?_
                                                      refine or_goto 737 E dL_minute_733 rfl ?_
                                                      try dsimp only at hk
                                                      exact or_xr E F (fun X' E' F' => or_zret E' F' dL_minute_737 (Nat.le_of_ble_eq_true rfl) (Nat.le_of_ble_eq_true rfl) (bi_nar true) (hk.1 rfl))
                                        · replace hk := ite_n (P := fun r : Bool × ow_I => ox_e K S V z 0 (some (.int (bi ((r).1)))) ((r).2)) q675 hk
                                          refine or_iconst (v := nI 0) E rfl dL_minute_678 ?_
                                          try dsimp only at hk
                                          exact or_xr E F (fun X' E' F' => or_zret E' F' dL_minute_679 (Nat.le_of_ble_eq_true rfl) (Nat.le_of_ble_eq_true rfl) (bi_nar false) (hk.1 rfl))
                                    · replace hk := ite_p (P := fun r : Bool × ow_I => ox_e K S V z 0 (some (.int (bi ((r).1)))) ((r).2)) q609 hk
                                      refine or_aload_n E rfl dL_minute_612 ?_
                                      refine or_fV0r (cA_openBarrel (Z := Z)  h_x ) E G F lk_120_72 dL_minute_613 h_x.1 rfl rfl (by decide) (by decide) ⟨(Nat.le_of_ble_eq_true rfl), (Nat.le_of_ble_eq_true rfl)⟩ (Nat.le_of_ble_eq_true rfl) (fun _ => ?_) (fun h => absurd h (Nat.lt_irrefl 0))
                                      refine or_iconst (v := -1) E rfl dL_minute_616 ?_
                                      refine or_icmp_ne 659 E dL_minute_617 rfl (fun q617 => ?_) (fun q617 => ?_)
                                      · replace hk := ite_n (P := fun r : Bool × ow_I => ox_e K S V z 0 (some (.int (bi ((r).1)))) ((r).2)) q617 hk
                                        refine or_iconst (v := nI 0) E rfl dL_minute_659 ?_
                                        try dsimp only at hk
                                        exact or_xr E F (fun X' E' F' => or_zret E' F' dL_minute_660 (Nat.le_of_ble_eq_true rfl) (Nat.le_of_ble_eq_true rfl) (bi_nar false) (hk.1 rfl))
                                      · replace hk := ite_p (P := fun r : Bool × ow_I => ox_e K S V z 0 (some (.int (bi ((r).1)))) ((r).2)) q617 hk
                                        refine or_aload_n E rfl dL_minute_620 ?_
                                        refine or_fV0r (cA_queueLength (Z := Z)  h_x ) E G F lk_120_66 dL_minute_621 h_x.1 rfl rfl (by decide) (by decide) ⟨(Nat.le_of_ble_eq_true rfl), (Nat.le_of_ble_eq_true rfl)⟩ (Nat.le_of_ble_eq_true rfl) (fun _ => ?_) (fun h => absurd h (Nat.lt_irrefl 0))
                                        refine or_iload E rfl dL_minute_624 ?_
                                        obtain ⟨b626, hb626⟩ : ∃ y_ : Bool, y_ = if b459 then true else false := ⟨_, rfl⟩
                                        replace hk := lt_k (P := fun r : Bool × ow_I => ox_e K S V z 0 (some (.int (bi ((r).1)))) ((r).2)) hb626 hk
                                        have J626 : ow_W X 0 0 (S, r2.2, V, z) 636 [(0, .ref x), (1, .ref m), (2, .int (A_minute x I + (nI 1))), (3, .int (A_openBarrel x I)), (4, .int (A_leader x I)), (5, .int (A_bid x I)), (6, .int (A_quiet x I)), (7, .int (A_queueLength x I)), (8, .int (A_queuedBarrel x (nI 0) I)), (9, .int (A_sellerCoins x I)), (10, .int (A_houseCoins x I)), (12, .int (bi b119.1)), (13, .int b119.2), (14, .int b244), (15, .int b260), (16, .int b277), (17, .int (bi b292)), (18, .int (bi b459))] [.int (bi b626), .int (A_queueLength x I), .int (A_queueLength x r2.2)] := by
                                          refine or_iadd E dL_minute_636 ?_
                                          refine or_icmp_ne 659 E dL_minute_637 rfl (fun q637 => ?_) (fun q637 => ?_)
                                          · replace hk := ite_n (P := fun r : Bool × ow_I => ox_e K S V z 0 (some (.int (bi ((r).1)))) ((r).2)) q637 hk
                                            refine or_iconst (v := nI 0) E rfl dL_minute_659 ?_
                                            try dsimp only at hk
                                            exact or_xr E F (fun X' E' F' => or_zret E' F' dL_minute_660 (Nat.le_of_ble_eq_true rfl) (Nat.le_of_ble_eq_true rfl) (bi_nar false) (hk.1 rfl))
                                          · replace hk := ite_p (P := fun r : Bool × ow_I => ox_e K S V z 0 (some (.int (bi ((r).1)))) ((r).2)) q637 hk
                                            refine or_iload E rfl dL_minute_640 ?_
                                            refine or_if_eqZ 655 E dL_minute_642 rfl (fun q642 => ?_) (fun q642 => ?_)
                                            · replace hk := ite_n (P := fun r : Bool × ow_I => ox_e K S V z 0 (some (.int (bi ((r).1)))) ((r).2)) (bz_neg q642) hk
                                              refine or_iconst (v := nI 1) E rfl dL_minute_655 ?_
                                              refine or_goto 660 E dL_minute_656 rfl ?_
                                              try dsimp only at hk
                                              exact or_xr E F (fun X' E' F' => or_zret E' F' dL_minute_660 (Nat.le_of_ble_eq_true rfl) (Nat.le_of_ble_eq_true rfl) (bi_nar true) (hk.1 rfl))
                                            · replace hk := ite_p (P := fun r : Bool × ow_I => ox_e K S V z 0 (some (.int (bi ((r).1)))) ((r).2)) q642 hk
                                              refine or_aload_n E rfl dL_minute_645 ?_
                                              refine or_iload E rfl dL_minute_646 ?_
                                              refine or_fV1r (cA_queuedBarrel (Z := Z)  h_x (by subst hr2; exact hJ.1)) E G F lk_120_139 dL_minute_648 h_x.1 rfl rfl (by decide) (by decide) ⟨(Nat.le_of_ble_eq_true rfl), (Nat.le_of_ble_eq_true rfl)⟩ (Nat.le_of_ble_eq_true rfl) (fun _ => ?_) (fun h => absurd h (Nat.lt_irrefl 0))
                                              refine or_iload_n E rfl dL_minute_651 ?_
                                              refine or_icmp_ne 659 E dL_minute_652 rfl (fun q652 => ?_) (fun q652 => ?_)
                                              · replace hk := ite_n (P := fun r : Bool × ow_I => ox_e K S V z 0 (some (.int (bi ((r).1)))) ((r).2)) q652 hk
                                                refine or_iconst (v := nI 0) E rfl dL_minute_659 ?_
                                                try dsimp only at hk
                                                exact or_xr E F (fun X' E' F' => or_zret E' F' dL_minute_660 (Nat.le_of_ble_eq_true rfl) (Nat.le_of_ble_eq_true rfl) (bi_nar false) (hk.1 rfl))
                                              · replace hk := ite_p (P := fun r : Bool × ow_I => ox_e K S V z 0 (some (.int (bi ((r).1)))) ((r).2)) q652 hk
                                                refine or_iconst (v := nI 1) E rfl dL_minute_655 ?_
                                                refine or_goto 660 E dL_minute_656 rfl ?_
                                                try dsimp only at hk
                                                exact or_xr E F (fun X' E' F' => or_zret E' F' dL_minute_660 (Nat.le_of_ble_eq_true rfl) (Nat.le_of_ble_eq_true rfl) (bi_nar true) (hk.1 rfl))
                                        refine or_iload E rfl dL_minute_626 ?_
                                        refine or_if_eqZ 635 E dL_minute_628 rfl (fun q628 => ?_) (fun q628 => ?_)
                                        · replace hb626 := ite_n (P := fun r_ : Bool => b626 = r_) (bz_neg q628) hb626
                                          refine or_iconst (v := nI 0) E rfl dL_minute_635 ?_
                                          obtain rfl : b626 = false := hb626
                                          exact or_lv _ rfl J626
                                        · replace hb626 := ite_p (P := fun r_ : Bool => b626 = r_) q628 hb626
                                          refine or_iconst (v := nI 1) E rfl dL_minute_631 ?_
                                          refine or_goto 636 E dL_minute_632 rfl ?_
                                          obtain rfl : b626 = true := hb626
                                          exact or_lv _ rfl J626
                                  refine or_aload_n E rfl dL_minute_524 ?_
                                  refine or_iload_n E rfl dL_minute_525 ?_
                                  refine or_fT2r (tL_open (Z := Z)  h_m (by subst hr2; exact (li_p hJ))) E G F lk_120_102 dL_minute_526 (by decide) (by decide) ⟨(Nat.le_of_ble_eq_true rfl), (Nat.le_of_ble_eq_true rfl)⟩ (Nat.le_of_ble_eq_true rfl) (fun _ => ?_) (fun h => absurd h (Nat.lt_irrefl 0))
                                  refine or_if_eqZ 607 E dL_minute_529 rfl (fun q529 => ?_) (fun q529 => ?_)
                                  · replace hb524 := ite_n (P := fun r_ : Bool => b524 = r_) (bz_neg q529) hb524
                                    exact or_lv _ rfl (J524f hb524)
                                  · replace hb524 := ite_p (P := fun r_ : Bool => b524 = r_) q529 hb524
                                    refine or_iload_n E rfl dL_minute_532 ?_
                                    refine or_if_ge 607 E dL_minute_533 rfl (fun q533 => ?_) (fun q533 => ?_)
                                    · replace hb524 := ite_p (P := fun r_ : Bool => b524 = r_) q533 hb524
                                      exact or_lv _ rfl (J524f hb524)
                                    · replace hb524 := ite_n (P := fun r_ : Bool => b524 = r_) q533 hb524
                                      exact or_lv _ rfl (J524t hb524)
                                have J482f : b482 = false → ow_W X 0 0 (S, r2.2, V, z) 522 [(0, .ref x), (1, .ref m), (2, .int (A_minute x I + (nI 1))), (3, .int (A_openBarrel x I)), (4, .int (A_leader x I)), (5, .int (A_bid x I)), (6, .int (A_quiet x I)), (7, .int (A_queueLength x I)), (8, .int (A_queuedBarrel x (nI 0) I)), (9, .int (A_sellerCoins x I)), (10, .int (A_houseCoins x I)), (12, .int (bi b119.1)), (13, .int b119.2), (14, .int b244), (15, .int b260), (16, .int b277), (17, .int (bi b292)), (18, .int (bi b459))] [] := by
                                  intro hb482v
                                  replace hk := ite_n (P := fun r : Bool × ow_I => ox_e K S V z 0 (some (.int (bi ((r).1)))) ((r).2)) (bz_neg hb482v) hk
                                  refine or_iconst (v := nI 0) E rfl dL_minute_522 ?_
                                  try dsimp only at hk
                                  exact or_xr E F (fun X' E' F' => or_zret E' F' dL_minute_523 (Nat.le_of_ble_eq_true rfl) (Nat.le_of_ble_eq_true rfl) (bi_nar false) (hk.1 rfl))
                                refine or_iload E rfl dL_minute_482 ?_
                                refine or_if_eqZ 524 E dL_minute_484 rfl (fun q484 => ?_) (fun q484 => ?_)
                                · replace hb482 := ite_n (P := fun r_ : Bool => b482 = r_) (bz_neg q484) hb482
                                  exact or_lv _ rfl (J482t hb482)
                                · replace hb482 := ite_p (P := fun r_ : Bool => b482 = r_) q484 hb482
                                  refine or_iload E rfl dL_minute_487 ?_
                                  refine or_if_ge 524 E dL_minute_489 rfl (fun q489 => ?_) (fun q489 => ?_)
                                  · replace hb482 := ite_p (P := fun r_ : Bool => b482 = r_) q489 hb482
                                    exact or_lv _ rfl (J482t hb482)
                                  · replace hb482 := ite_n (P := fun r_ : Bool => b482 = r_) q489 hb482
                                    refine or_aload_n E rfl dL_minute_492 ?_
                                    refine or_iload_n E rfl dL_minute_493 ?_
                                    refine or_fV1r (cA_returns (Z := Z)  h_x (by subst hr2; exact hJ.1.1) (by subst hr2; exact (ba_J2 hI h10 (hc119 q484)))) E G F lk_120_151 dL_minute_494 h_x.1 rfl rfl (by decide) (by decide) ⟨(Nat.le_of_ble_eq_true rfl), (Nat.le_of_ble_eq_true rfl)⟩ (Nat.le_of_ble_eq_true rfl) (fun _ => ?_) (fun h => absurd h (Nat.lt_irrefl 0))
                                    refine or_iload E rfl dL_minute_497 ?_
                                    refine or_iconst (v := nI 1) E rfl dL_minute_499 ?_
                                    refine or_iadd E dL_minute_500 ?_
                                    refine or_icmp_ne 522 E dL_minute_501 rfl (fun q501 => ?_) (fun q501 => ?_)
                                    · replace hb482 := ite_n (P := fun r_ : Bool => b482 = r_) q501 hb482
                                      exact or_lv _ rfl (J482f hb482)
                                    · replace hb482 := ite_p (P := fun r_ : Bool => b482 = r_) q501 hb482
                                      refine or_aload_n E rfl dL_minute_504 ?_
                                      refine or_iload_n E rfl dL_minute_505 ?_
                                      refine or_fV1r (cA_stateOf (Z := Z)  h_x (by subst hr2; exact hJ.1.1) (by subst hr2; exact (ba_J2 hI h10 (hc119 q484)))) E G F lk_120_157 dL_minute_506 h_x.1 rfl rfl (by decide) (by decide) ⟨(Nat.le_of_ble_eq_true rfl), (Nat.le_of_ble_eq_true rfl)⟩ (Nat.le_of_ble_eq_true rfl) (fun _ => ?_) (fun h => absurd h (Nat.lt_irrefl 0))
                                      refine or_iload E rfl dL_minute_509 ?_
                                      refine or_if_eqZ 518 E dL_minute_511 rfl (fun q511 => ?_) (fun q511 => ?_)
                                      · replace hb482 := ite_n (P := fun r_ : Bool => b482 = r_) (bz_neg q511) hb482
                                        refine or_iconst (v := nI 3) E rfl dL_minute_518 ?_
                                        refine or_icmp_eq 524 E dL_minute_519 rfl (fun q519 => ?_) (fun q519 => ?_)
                                        · replace hb482 := ite_p (P := fun r_ : Bool => b482 = r_) q519 hb482
                                          exact or_lv _ rfl (J482t hb482)
                                        · replace hb482 := ite_n (P := fun r_ : Bool => b482 = r_) q519 hb482
                                          exact or_lv _ rfl (J482f hb482)
                                      · replace hb482 := ite_p (P := fun r_ : Bool => b482 = r_) q511 hb482
                                        refine or_iconst (v := nI 0) E rfl dL_minute_514 ?_
                                        refine or_goto 519 E dL_minute_515 rfl ?_
                                        refine or_icmp_eq 524 E dL_minute_519 rfl (fun q519 => ?_) (fun q519 => ?_)
                                        · replace hb482 := ite_p (P := fun r_ : Bool => b482 = r_) q519 hb482
                                          exact or_lv _ rfl (J482t hb482)
                                        · replace hb482 := ite_n (P := fun r_ : Bool => b482 = r_) q519 hb482
                                          exact or_lv _ rfl (J482f hb482)
                              refine or_iload E rfl dL_minute_459 ?_
                              refine or_if_eqZ 479 E dL_minute_461 rfl (fun q461 => ?_) (fun q461 => ?_)
                              · replace hb459 := ite_n (P := fun r_ : Bool => b459 = r_) (bz_neg q461) hb459
                                refine or_iconst (v := nI 0) E rfl dL_minute_479 ?_
                                obtain rfl : b459 = false := hb459
                                exact or_lv _ rfl J459
                              · replace hb459 := ite_p (P := fun r_ : Bool => b459 = r_) q461 hb459
                                refine or_iload E rfl dL_minute_464 ?_
                                refine or_if_ge 479 E dL_minute_466 rfl (fun q466 => ?_) (fun q466 => ?_)
                                · replace hb459 := ite_p (P := fun r_ : Bool => b459 = r_) q466 hb459
                                  refine or_iconst (v := nI 0) E rfl dL_minute_479 ?_
                                  obtain rfl : b459 = false := hb459
                                  exact or_lv _ rfl J459
                                · replace hb459 := ite_n (P := fun r_ : Bool => b459 = r_) q466 hb459
                                  refine or_iload E rfl dL_minute_469 ?_
                                  refine or_iconst (v := nI 2) E rfl dL_minute_471 ?_
                                  refine or_icmp_ge 479 E dL_minute_472 rfl (fun q472 => ?_) (fun q472 => ?_)
                                  · replace hb459 := ite_p (P := fun r_ : Bool => b459 = r_) q472 hb459
                                    refine or_iconst (v := nI 0) E rfl dL_minute_479 ?_
                                    obtain rfl : b459 = false := hb459
                                    exact or_lv _ rfl J459
                                  · replace hb459 := ite_n (P := fun r_ : Bool => b459 = r_) q472 hb459
                                    refine or_iconst (v := nI 1) E rfl dL_minute_475 ?_
                                    refine or_goto 480 E dL_minute_476 rfl ?_
                                    obtain rfl : b459 = true := hb459
                                    exact or_lv _ rfl J459
                            have J434f : b434 = false → ow_W X 0 0 (S, r2.2, V, z) 457 [(0, .ref x), (1, .ref m), (2, .int (A_minute x I + (nI 1))), (3, .int (A_openBarrel x I)), (4, .int (A_leader x I)), (5, .int (A_bid x I)), (6, .int (A_quiet x I)), (7, .int (A_queueLength x I)), (8, .int (A_queuedBarrel x (nI 0) I)), (9, .int (A_sellerCoins x I)), (10, .int (A_houseCoins x I)), (12, .int (bi b119.1)), (13, .int b119.2), (14, .int b244), (15, .int b260), (16, .int b277), (17, .int (bi b292))] [] := by
                              intro hb434v
                              replace hk := ite_n (P := fun r : Bool × ow_I => ox_e K S V z 0 (some (.int (bi ((r).1)))) ((r).2)) (bz_neg hb434v) hk
                              refine or_iconst (v := nI 0) E rfl dL_minute_457 ?_
                              try dsimp only at hk
                              exact or_xr E F (fun X' E' F' => or_zret E' F' dL_minute_458 (Nat.le_of_ble_eq_true rfl) (Nat.le_of_ble_eq_true rfl) (bi_nar false) (hk.1 rfl))
                            refine or_iload E rfl dL_minute_434 ?_
                            refine or_if_neZ 459 E dL_minute_436 rfl (fun q436 => ?_) (fun q436 => ?_)
                            · replace hb434 := ite_p (P := fun r_ : Bool => b434 = r_) q436 hb434
                              exact or_lv _ rfl (J434t hb434)
                            · replace hb434 := ite_n (P := fun r_ : Bool => b434 = r_) (bz_neg q436) hb434
                              refine or_aload_n E rfl dL_minute_439 ?_
                              refine or_fV0r (cA_sellerCoins (Z := Z)  h_x ) E G F lk_120_142 dL_minute_440 h_x.1 rfl rfl (by decide) (by decide) ⟨(Nat.le_of_ble_eq_true rfl), (Nat.le_of_ble_eq_true rfl)⟩ (Nat.le_of_ble_eq_true rfl) (fun _ => ?_) (fun h => absurd h (Nat.lt_irrefl 0))
                              refine or_iload E rfl dL_minute_443 ?_
                              refine or_icmp_ne 457 E dL_minute_445 rfl (fun q445 => ?_) (fun q445 => ?_)
                              · replace hb434 := ite_n (P := fun r_ : Bool => b434 = r_) q445 hb434
                                exact or_lv _ rfl (J434f hb434)
                              · replace hb434 := ite_p (P := fun r_ : Bool => b434 = r_) q445 hb434
                                refine or_aload_n E rfl dL_minute_448 ?_
                                refine or_fV0r (cA_houseCoins (Z := Z)  h_x ) E G F lk_120_145 dL_minute_449 h_x.1 rfl rfl (by decide) (by decide) ⟨(Nat.le_of_ble_eq_true rfl), (Nat.le_of_ble_eq_true rfl)⟩ (Nat.le_of_ble_eq_true rfl) (fun _ => ?_) (fun h => absurd h (Nat.lt_irrefl 0))
                                refine or_iload E rfl dL_minute_452 ?_
                                refine or_icmp_eq 459 E dL_minute_454 rfl (fun q454 => ?_) (fun q454 => ?_)
                                · replace hb434 := ite_p (P := fun r_ : Bool => b434 = r_) q454 hb434
                                  exact or_lv _ rfl (J434t hb434)
                                · replace hb434 := ite_n (P := fun r_ : Bool => b434 = r_) q454 hb434
                                  exact or_lv _ rfl (J434f hb434)
                          have J349f : b349 = false → ow_W X 0 0 (S, r2.2, V, z) 432 [(0, .ref x), (1, .ref m), (2, .int (A_minute x I + (nI 1))), (3, .int (A_openBarrel x I)), (4, .int (A_leader x I)), (5, .int (A_bid x I)), (6, .int (A_quiet x I)), (7, .int (A_queueLength x I)), (8, .int (A_queuedBarrel x (nI 0) I)), (9, .int (A_sellerCoins x I)), (10, .int (A_houseCoins x I)), (12, .int (bi b119.1)), (13, .int b119.2), (14, .int b244), (15, .int b260), (16, .int b277), (17, .int (bi b292))] [] := by
                            intro hb349v
                            replace hk := ite_n (P := fun r : Bool × ow_I => ox_e K S V z 0 (some (.int (bi ((r).1)))) ((r).2)) (bz_neg hb349v) hk
                            refine or_iconst (v := nI 0) E rfl dL_minute_432 ?_
                            try dsimp only at hk
                            exact or_xr E F (fun X' E' F' => or_zret E' F' dL_minute_433 (Nat.le_of_ble_eq_true rfl) (Nat.le_of_ble_eq_true rfl) (bi_nar false) (hk.1 rfl))
                          refine or_iload E rfl dL_minute_349 ?_
                          refine or_if_eqZ 434 E dL_minute_351 rfl (fun q351 => ?_) (fun q351 => ?_)
                          · replace hb349 := ite_n (P := fun r_ : Bool => b349 = r_) (bz_neg q351) hb349
                            exact or_lv _ rfl (J349t hb349)
                          · replace hb349 := ite_p (P := fun r_ : Bool => b349 = r_) q351 hb349
                            refine or_aload_n E rfl dL_minute_354 ?_
                            refine or_iload_n E rfl dL_minute_355 ?_
                            refine or_fV1r (cA_stateOf (Z := Z)  h_x (by subst hr2; exact hJ.1.1) (by subst hr2; exact (ba_J hI h10 (se_l hb292 q351)))) E G F lk_120_157 dL_minute_356 h_x.1 rfl rfl (by decide) (by decide) ⟨(Nat.le_of_ble_eq_true rfl), (Nat.le_of_ble_eq_true rfl)⟩ (Nat.le_of_ble_eq_true rfl) (fun _ => ?_) (fun h => absurd h (Nat.lt_irrefl 0))
                            refine or_iconst (v := nI 2) E rfl dL_minute_359 ?_
                            refine or_icmp_ne 432 E dL_minute_360 rfl (fun q360 => ?_) (fun q360 => ?_)
                            · replace hb349 := ite_n (P := fun r_ : Bool => b349 = r_) q360 hb349
                              exact or_lv _ rfl (J349f hb349)
                            · replace hb349 := ite_p (P := fun r_ : Bool => b349 = r_) q360 hb349
                              refine or_aload_n E rfl dL_minute_363 ?_
                              refine or_iload_n E rfl dL_minute_364 ?_
                              refine or_fV1r (cA_buyerOf (Z := Z)  h_x (by subst hr2; exact hJ.1.1) (by subst hr2; exact (ba_J hI h10 (se_l hb292 q351)))) E G F lk_120_160 dL_minute_365 h_x.1 rfl rfl (by decide) (by decide) ⟨(Nat.le_of_ble_eq_true rfl), (Nat.le_of_ble_eq_true rfl)⟩ (Nat.le_of_ble_eq_true rfl) (fun _ => ?_) (fun h => absurd h (Nat.lt_irrefl 0))
                              refine or_iload E rfl dL_minute_368 ?_
                              refine or_icmp_ne 432 E dL_minute_370 rfl (fun q370 => ?_) (fun q370 => ?_)
                              · replace hb349 := ite_n (P := fun r_ : Bool => b349 = r_) q370 hb349
                                exact or_lv _ rfl (J349f hb349)
                              · replace hb349 := ite_p (P := fun r_ : Bool => b349 = r_) q370 hb349
                                refine or_aload_n E rfl dL_minute_373 ?_
                                refine or_iload_n E rfl dL_minute_374 ?_
                                refine or_fV1r (cA_priceOf (Z := Z)  h_x (by subst hr2; exact hJ.1.1) (by subst hr2; exact (ba_J hI h10 (se_l hb292 q351)))) E G F lk_120_163 dL_minute_375 h_x.1 rfl rfl (by decide) (by decide) ⟨(Nat.le_of_ble_eq_true rfl), (Nat.le_of_ble_eq_true rfl)⟩ (Nat.le_of_ble_eq_true rfl) (fun _ => ?_) (fun h => absurd h (Nat.lt_irrefl 0))
                                refine or_iload E rfl dL_minute_378 ?_
                                refine or_icmp_ne 432 E dL_minute_380 rfl (fun q380 => ?_) (fun q380 => ?_)
                                · replace hb349 := ite_n (P := fun r_ : Bool => b349 = r_) q380 hb349
                                  exact or_lv _ rfl (J349f hb349)
                                · replace hb349 := ite_p (P := fun r_ : Bool => b349 = r_) q380 hb349
                                  refine or_aload_n E rfl dL_minute_383 ?_
                                  refine or_iload E rfl dL_minute_384 ?_
                                  refine or_fV1r (cA_purse (Z := Z)  h_x (by subst hr2; exact hJ.1.1) (by subst hr2; exact (le_J hI h8 (se_l hb292 q351)))) E G F lk_120_118 dL_minute_386 h_x.1 rfl rfl (by decide) (by decide) ⟨(Nat.le_of_ble_eq_true rfl), (Nat.le_of_ble_eq_true rfl)⟩ (Nat.le_of_ble_eq_true rfl) (fun _ => ?_) (fun h => absurd h (Nat.lt_irrefl 0))
                                  refine or_iload E rfl dL_minute_389 ?_
                                  refine or_aload_n E rfl dL_minute_391 ?_
                                  refine or_iload E rfl dL_minute_392 ?_
                                  refine or_fT2r (tL_cost (Z := Z)  h_m ) E G F lk_120_121 dL_minute_394 (by decide) (by decide) ⟨(Nat.le_of_ble_eq_true rfl), (Nat.le_of_ble_eq_true rfl)⟩ (Nat.le_of_ble_eq_true rfl) (fun _ => ?_) (fun h => absurd h (Nat.lt_irrefl 0))
                                  refine or_isub E dL_minute_397 ?_
                                  refine or_icmp_ne 432 E dL_minute_398 rfl (fun q398 => ?_) (fun q398 => ?_)
                                  · replace hb349 := ite_n (P := fun r_ : Bool => b349 = r_) q398 hb349
                                    exact or_lv _ rfl (J349f hb349)
                                  · replace hb349 := ite_p (P := fun r_ : Bool => b349 = r_) q398 hb349
                                    refine or_aload_n E rfl dL_minute_401 ?_
                                    refine or_fV0r (cA_sellerCoins (Z := Z)  h_x ) E G F lk_120_142 dL_minute_402 h_x.1 rfl rfl (by decide) (by decide) ⟨(Nat.le_of_ble_eq_true rfl), (Nat.le_of_ble_eq_true rfl)⟩ (Nat.le_of_ble_eq_true rfl) (fun _ => ?_) (fun h => absurd h (Nat.lt_irrefl 0))
                                    refine or_iload E rfl dL_minute_405 ?_
                                    refine or_iload E rfl dL_minute_407 ?_
                                    refine or_iadd E dL_minute_409 ?_
                                    refine or_icmp_ne 432 E dL_minute_410 rfl (fun q410 => ?_) (fun q410 => ?_)
                                    · replace hb349 := ite_n (P := fun r_ : Bool => b349 = r_) q410 hb349
                                      exact or_lv _ rfl (J349f hb349)
                                    · replace hb349 := ite_p (P := fun r_ : Bool => b349 = r_) q410 hb349
                                      refine or_aload_n E rfl dL_minute_413 ?_
                                      refine or_fV0r (cA_houseCoins (Z := Z)  h_x ) E G F lk_120_145 dL_minute_414 h_x.1 rfl rfl (by decide) (by decide) ⟨(Nat.le_of_ble_eq_true rfl), (Nat.le_of_ble_eq_true rfl)⟩ (Nat.le_of_ble_eq_true rfl) (fun _ => ?_) (fun h => absurd h (Nat.lt_irrefl 0))
                                      refine or_iload E rfl dL_minute_417 ?_
                                      refine or_aload_n E rfl dL_minute_419 ?_
                                      refine or_iload E rfl dL_minute_420 ?_
                                      refine or_fT2r (tL_cost (Z := Z)  h_m ) E G F lk_120_121 dL_minute_422 (by decide) (by decide) ⟨(Nat.le_of_ble_eq_true rfl), (Nat.le_of_ble_eq_true rfl)⟩ (Nat.le_of_ble_eq_true rfl) (fun _ => ?_) (fun h => absurd h (Nat.lt_irrefl 0))
                                      refine or_iadd E dL_minute_425 ?_
                                      refine or_iload E rfl dL_minute_426 ?_
                                      refine or_isub E dL_minute_428 ?_
                                      refine or_icmp_eq 434 E dL_minute_429 rfl (fun q429 => ?_) (fun q429 => ?_)
                                      · replace hb349 := ite_p (P := fun r_ : Bool => b349 = r_) q429 hb349
                                        exact or_lv _ rfl (J349t hb349)
                                      · replace hb349 := ite_n (P := fun r_ : Bool => b349 = r_) q429 hb349
                                        exact or_lv _ rfl (J349f hb349)
                        have J327f : b327 = false → ow_W X 0 0 (S, r2.2, V, z) 347 [(0, .ref x), (1, .ref m), (2, .int (A_minute x I + (nI 1))), (3, .int (A_openBarrel x I)), (4, .int (A_leader x I)), (5, .int (A_bid x I)), (6, .int (A_quiet x I)), (7, .int (A_queueLength x I)), (8, .int (A_queuedBarrel x (nI 0) I)), (9, .int (A_sellerCoins x I)), (10, .int (A_houseCoins x I)), (12, .int (bi b119.1)), (13, .int b119.2), (14, .int b244), (15, .int b260), (16, .int b277), (17, .int (bi b292))] [] := by
                          intro hb327v
                          replace hk := ite_n (P := fun r : Bool × ow_I => ox_e K S V z 0 (some (.int (bi ((r).1)))) ((r).2)) (bz_neg hb327v) hk
                          refine or_iconst (v := nI 0) E rfl dL_minute_347 ?_
                          try dsimp only at hk
                          exact or_xr E F (fun X' E' F' => or_zret E' F' dL_minute_348 (Nat.le_of_ble_eq_true rfl) (Nat.le_of_ble_eq_true rfl) (bi_nar false) (hk.1 rfl))
                        refine or_aload_n E rfl dL_minute_327 ?_
                        refine or_fV0r (cA_minute (Z := Z)  h_x ) E G F lk_120_69 dL_minute_328 h_x.1 rfl rfl (by decide) (by decide) ⟨(Nat.le_of_ble_eq_true rfl), (Nat.le_of_ble_eq_true rfl)⟩ (Nat.le_of_ble_eq_true rfl) (fun _ => ?_) (fun h => absurd h (Nat.lt_irrefl 0))
                        refine or_iload_n E rfl dL_minute_331 ?_
                        refine or_icmp_ne 347 E dL_minute_332 rfl (fun q332 => ?_) (fun q332 => ?_)
                        · replace hb327 := ite_n (P := fun r_ : Bool => b327 = r_) q332 hb327
                          exact or_lv _ rfl (J327f hb327)
                        · replace hb327 := ite_p (P := fun r_ : Bool => b327 = r_) q332 hb327
                          refine or_aload_n E rfl dL_minute_335 ?_
                          refine or_fV0r (cA_isOpen (Z := Z)  h_x ) E G F lk_120_75 dL_minute_336 h_x.1 rfl rfl (by decide) (by decide) ⟨(Nat.le_of_ble_eq_true rfl), (Nat.le_of_ble_eq_true rfl)⟩ (Nat.le_of_ble_eq_true rfl) (fun _ => ?_) (fun h => absurd h (Nat.lt_irrefl 0))
                          refine or_aload_n E rfl dL_minute_339 ?_
                          refine or_iload_n E rfl dL_minute_340 ?_
                          refine or_fT2r (tL_open (Z := Z)  h_m (by subst hr2; exact (li_p hJ))) E G F lk_120_102 dL_minute_341 (by decide) (by decide) ⟨(Nat.le_of_ble_eq_true rfl), (Nat.le_of_ble_eq_true rfl)⟩ (Nat.le_of_ble_eq_true rfl) (fun _ => ?_) (fun h => absurd h (Nat.lt_irrefl 0))
                          refine or_icmp_eq 349 E dL_minute_344 rfl (fun q344 => ?_) (fun q344 => ?_)
                          · replace hb327 := ite_p (P := fun r_ : Bool => b327 = r_) q344 hb327
                            exact or_lv _ rfl (J327t hb327)
                          · replace hb327 := ite_n (P := fun r_ : Bool => b327 = r_) q344 hb327
                            exact or_lv _ rfl (J327f hb327)
                    refine or_iload E rfl dL_minute_314 ?_
                    refine or_if_eqZ 323 E dL_minute_316 rfl (fun q316 => ?_) (fun q316 => ?_)
                    · replace hb314 := ite_n (P := fun r_ : Bool => b314 = r_) (bz_neg q316) hb314
                      refine or_iconst (v := nI 0) E rfl dL_minute_323 ?_
                      obtain rfl : b314 = false := hb314
                      exact or_lv _ rfl J314
                    · replace hb314 := ite_p (P := fun r_ : Bool => b314 = r_) q316 hb314
                      refine or_iconst (v := nI 1) E rfl dL_minute_319 ?_
                      refine or_goto 324 E dL_minute_320 rfl ?_
                      obtain rfl : b314 = true := hb314
                      exact or_lv _ rfl J314
                  refine or_iload E rfl dL_minute_292 ?_
                  refine or_if_eqZ 306 E dL_minute_294 rfl (fun q294 => ?_) (fun q294 => ?_)
                  · replace hb292 := ite_n (P := fun r_ : Bool => b292 = r_) (bz_neg q294) hb292
                    refine or_iconst (v := nI 0) E rfl dL_minute_306 ?_
                    obtain rfl : b292 = false := hb292
                    exact or_lv _ rfl J292
                  · replace hb292 := ite_p (P := fun r_ : Bool => b292 = r_) q294 hb292
                    refine or_iload E rfl dL_minute_297 ?_
                    refine or_if_lt 306 E dL_minute_299 rfl (fun q299 => ?_) (fun q299 => ?_)
                    · replace hb292 := ite_p (P := fun r_ : Bool => b292 = r_) q299 hb292
                      refine or_iconst (v := nI 0) E rfl dL_minute_306 ?_
                      obtain rfl : b292 = false := hb292
                      exact or_lv _ rfl J292
                    · replace hb292 := ite_n (P := fun r_ : Bool => b292 = r_) q299 hb292
                      refine or_iconst (v := nI 1) E rfl dL_minute_302 ?_
                      refine or_goto 307 E dL_minute_303 rfl ?_
                      obtain rfl : b292 = true := hb292
                      exact or_lv _ rfl J292
                refine or_iload_n E rfl dL_minute_277 ?_
                refine or_if_ge 285 E dL_minute_278 rfl (fun q278 => ?_) (fun q278 => ?_)
                · replace hb277 := ite_p (P := fun r_ : Int32 => b277 = r_) q278 hb277
                  refine or_aload_n E rfl dL_minute_285 ?_
                  refine or_iload_n E rfl dL_minute_286 ?_
                  refine or_fV1r (cA_returns (Z := Z)  h_x hI.1.1 (li_o' hI q278)) E G F lk_120_151 dL_minute_287 h_x.1 rfl rfl (by decide) (by decide) ⟨(Nat.le_of_ble_eq_true rfl), (Nat.le_of_ble_eq_true rfl)⟩ (Nat.le_of_ble_eq_true rfl) (fun _ => ?_) (fun h => absurd h (Nat.lt_irrefl 0))
                  obtain rfl : b277 = A_returns x (A_openBarrel x I) I := hb277
                  exact or_lv _ rfl J277
                · replace hb277 := ite_n (P := fun r_ : Int32 => b277 = r_) q278 hb277
                  refine or_iconst (v := nI 0) E rfl dL_minute_281 ?_
                  refine or_goto 290 E dL_minute_282 rfl ?_
                  obtain rfl : b277 = nI 0 := hb277
                  exact or_lv _ rfl J277
              refine or_iload E rfl dL_minute_260 ?_
              refine or_if_ge 269 E dL_minute_262 rfl (fun q262 => ?_) (fun q262 => ?_)
              · replace hb260 := ite_p (P := fun r_ : Int32 => b260 = r_) q262 hb260
                refine or_aload_n E rfl dL_minute_269 ?_
                refine or_iload E rfl dL_minute_270 ?_
                refine or_fV1r (cA_purse (Z := Z)  h_x hI.1.1 (li_l' hI q262)) E G F lk_120_118 dL_minute_272 h_x.1 rfl rfl (by decide) (by decide) ⟨(Nat.le_of_ble_eq_true rfl), (Nat.le_of_ble_eq_true rfl)⟩ (Nat.le_of_ble_eq_true rfl) (fun _ => ?_) (fun h => absurd h (Nat.lt_irrefl 0))
                obtain rfl : b260 = A_purse x (A_leader x I) I := hb260
                exact or_lv _ rfl J260
              · replace hb260 := ite_n (P := fun r_ : Int32 => b260 = r_) q262 hb260
                refine or_iconst (v := nI 0) E rfl dL_minute_265 ?_
                refine or_goto 275 E dL_minute_266 rfl ?_
                obtain rfl : b260 = nI 0 := hb260
                exact or_lv _ rfl J260
            refine or_iload E rfl dL_minute_244 ?_
            refine or_if_lt 256 E dL_minute_246 rfl (fun q246 => ?_) (fun q246 => ?_)
            · replace hb244 := ite_p (P := fun r_ : Int32 => b244 = r_) q246 hb244
              refine or_iload E rfl dL_minute_256 ?_
              obtain rfl : b244 = A_bid x I := hb244
              exact or_lv _ rfl J244
            · replace hb244 := ite_n (P := fun r_ : Int32 => b244 = r_) q246 hb244
              refine or_aload_n E rfl dL_minute_249 ?_
              refine or_fV0r (cA_nextBid (Z := Z)  h_x hI.1.1) E G F lk_120_133 dL_minute_250 h_x.1 rfl rfl (by decide) (by decide) ⟨(Nat.le_of_ble_eq_true rfl), (Nat.le_of_ble_eq_true rfl)⟩ (Nat.le_of_ble_eq_true rfl) (fun _ => ?_) (fun h => absurd h (Nat.lt_irrefl 0))
              refine or_goto 258 E dL_minute_253 rfl ?_
              obtain rfl : b244 = A_nextBid x I := hb244
              exact or_lv _ rfl J244
          refine or_aload_n E rfl dL_minute_119 ?_
          refine or_iload_n E rfl dL_minute_120 ?_
          refine or_fT2r (tL_open (Z := Z)  h_m (li_p hI)) E G F lk_120_102 dL_minute_121 (by decide) (by decide) ⟨(Nat.le_of_ble_eq_true rfl), (Nat.le_of_ble_eq_true rfl)⟩ (Nat.le_of_ble_eq_true rfl) (fun _ => ?_) (fun h => absurd h (Nat.lt_irrefl 0))
          refine or_if_eqZ 244 E dL_minute_124 rfl (fun q124 => ?_) (fun q124 => ?_)
          · replace hb119 := ite_n (P := fun r_ : Bool × Int32 => b119 = r_) (bz_neg q124) hb119
            obtain rfl : b119 = (b80, (-1)) := hb119
            exact or_lv _ rfl J119
          · replace hb119 := ite_p (P := fun r_ : Bool × Int32 => b119 = r_) q124 hb119
            refine or_iload_n E rfl dL_minute_127 ?_
            refine or_if_lt 244 E dL_minute_128 rfl (fun q128 => ?_) (fun q128 => ?_)
            · replace hb119 := ite_p (P := fun r_ : Bool × Int32 => b119 = r_) q128 hb119
              obtain rfl : b119 = (b80, (-1)) := hb119
              exact or_lv _ rfl J119
            · replace hb119 := ite_n (P := fun r_ : Bool × Int32 => b119 = r_) q128 hb119
              refine or_iconst (v := nI 0) E rfl dL_minute_131 ?_
              refine or_istore E dL_minute_132 (by decide) ?_
              refine or_lv _ ?_ (L134 7 _ (A_minute x I + (nI 1)) (A_openBarrel x I) (A_leader x I) (A_bid x I) (A_quiet x I) (A_queueLength x I) (A_queuedBarrel x (nI 0) I) (A_sellerCoins x I) (A_houseCoins x I) b80 ((-1)) 0 hI (li_o hI q128) rfl (by decide) (by decide) ?_)
              · rfl
              obtain ⟨r1, hr1⟩ : ∃ y_ : Int32, y_ = L_minute_L134 x m 7 I (A_minute x I + (nI 1)) (A_openBarrel x I) (A_leader x I) (A_bid x I) (A_quiet x I) (A_queueLength x I) (A_queuedBarrel x (nI 0) I) (A_sellerCoins x I) (A_houseCoins x I) b80 ((-1)) 0 := ⟨_, rfl⟩
              replace hb119 := lt_k (P := fun r_ : Bool × Int32 => b119 = r_) hr1 hb119
              rw [← hr1]
              refine or_iload E rfl dL_minute_222 ?_
              refine or_if_ge 241 E dL_minute_224 rfl (fun q224 => ?_) (fun q224 => ?_)
              · replace hb119 := ite_p (P := fun r_ : Bool × Int32 => b119 = r_) q224 hb119
                refine or_iconst (v := nI 0) E rfl dL_minute_241 ?_
                refine or_istore E dL_minute_242 (by decide) ?_
                obtain rfl : b119 = (false, r1) := hb119
                exact or_lv _ rfl J119
              · replace hb119 := ite_n (P := fun r_ : Bool × Int32 => b119 = r_) q224 hb119
                refine or_iload E rfl dL_minute_227 ?_
                refine or_iconst (v := nI 1) E rfl dL_minute_229 ?_
                refine or_iadd E dL_minute_230 ?_
                refine or_aload_n E rfl dL_minute_231 ?_
                refine or_iconst (v := nI 2) E rfl dL_minute_232 ?_
                refine ot_iald (j := 2) E dL_minute_233 h_m rfl rfl (by omega) (Nat.le_of_ble_eq_true rfl) ?_
                refine or_icmp_lt 241 E dL_minute_234 rfl (fun q234 => ?_) (fun q234 => ?_)
                · replace hb119 := ite_p (P := fun r_ : Bool × Int32 => b119 = r_) q234 hb119
                  refine or_iconst (v := nI 0) E rfl dL_minute_241 ?_
                  refine or_istore E dL_minute_242 (by decide) ?_
                  obtain rfl : b119 = (false, r1) := hb119
                  exact or_lv _ rfl J119
                · replace hb119 := ite_n (P := fun r_ : Bool × Int32 => b119 = r_) q234 hb119
                  refine or_iconst (v := nI 1) E rfl dL_minute_237 ?_
                  refine or_goto 242 E dL_minute_238 rfl ?_
                  refine or_istore E dL_minute_242 (by decide) ?_
                  obtain rfl : b119 = (true, r1) := hb119
                  exact or_lv _ rfl J119
        · replace hk := ite_n (P := fun r : Bool × ow_I => ox_e K S V z 0 (some (.int (bi ((r).1)))) ((r).2)) q111 hk
          refine or_iconst (v := nI 0) E rfl dL_minute_114 ?_
          try dsimp only at hk
          exact or_xr E F (fun X' E' F' => or_zret E' F' dL_minute_115 (Nat.le_of_ble_eq_true rfl) (Nat.le_of_ble_eq_true rfl) (bi_nar false) (hk.1 rfl))
      refine or_aload_n E rfl dL_minute_96 ?_
      refine or_fV0r (cA_minutesToHorn (Z := Z)  h_x ) E G F lk_120_148 dL_minute_97 h_x.1 rfl rfl (by decide) (by decide) ⟨(Nat.le_of_ble_eq_true rfl), (Nat.le_of_ble_eq_true rfl)⟩ (Nat.le_of_ble_eq_true rfl) (fun _ => ?_) (fun h => absurd h (Nat.lt_irrefl 0))
      refine or_iconst (v := nI 1) E rfl dL_minute_100 ?_
      refine or_icmp_ne 108 E dL_minute_101 rfl (fun q101 => ?_) (fun q101 => ?_)
      · replace hb96 := ite_n (P := fun r_ : Bool => b96 = r_) q101 hb96
        refine or_iconst (v := nI 0) E rfl dL_minute_108 ?_
        obtain rfl : b96 = false := hb96
        exact or_lv _ rfl J96
      · replace hb96 := ite_p (P := fun r_ : Bool => b96 = r_) q101 hb96
        refine or_iconst (v := nI 1) E rfl dL_minute_104 ?_
        refine or_goto 109 E dL_minute_105 rfl ?_
        obtain rfl : b96 = true := hb96
        exact or_lv _ rfl J96
    refine or_iload E rfl dL_minute_80 ?_
    refine or_if_eqZ 93 E dL_minute_82 rfl (fun q82 => ?_) (fun q82 => ?_)
    · replace hb80 := ite_n (P := fun r_ : Bool => b80 = r_) (bz_neg q82) hb80
      refine or_iconst (v := nI 0) E rfl dL_minute_93 ?_
      obtain rfl : b80 = false := hb80
      exact or_lv _ rfl J80
    · replace hb80 := ite_p (P := fun r_ : Bool => b80 = r_) q82 hb80
      refine or_iload_n E rfl dL_minute_85 ?_
      refine or_if_lt 93 E dL_minute_86 rfl (fun q86 => ?_) (fun q86 => ?_)
      · replace hb80 := ite_p (P := fun r_ : Bool => b80 = r_) q86 hb80
        refine or_iconst (v := nI 0) E rfl dL_minute_93 ?_
        obtain rfl : b80 = false := hb80
        exact or_lv _ rfl J80
      · replace hb80 := ite_n (P := fun r_ : Bool => b80 = r_) q86 hb80
        refine or_iconst (v := nI 1) E rfl dL_minute_89 ?_
        refine or_goto 94 E dL_minute_90 rfl ?_
        obtain rfl : b80 = true := hb80
        exact or_lv _ rfl J80
  refine or_aload_n E rfl dL_minute_55 ?_
  refine or_iload_n E rfl dL_minute_56 ?_
  refine or_fT2r (tL_open (Z := Z)  h_m (li_p hI)) E G F lk_120_102 dL_minute_57 (by decide) (by decide) ⟨(Nat.le_of_ble_eq_true rfl), (Nat.le_of_ble_eq_true rfl)⟩ (Nat.le_of_ble_eq_true rfl) (fun _ => ?_) (fun h => absurd h (Nat.lt_irrefl 0))
  refine or_if_neZ 77 E dL_minute_60 rfl (fun q60 => ?_) (fun q60 => ?_)
  · replace hb55 := ite_p (P := fun r_ : Bool => b55 = r_) q60 hb55
    refine or_iconst (v := nI 0) E rfl dL_minute_77 ?_
    obtain rfl : b55 = false := hb55
    exact or_lv _ rfl J55
  · replace hb55 := ite_n (P := fun r_ : Bool => b55 = r_) (bz_neg q60) hb55
    refine or_aload_n E rfl dL_minute_63 ?_
    refine or_iload_n E rfl dL_minute_64 ?_
    refine or_iconst (v := nI 1) E rfl dL_minute_65 ?_
    refine or_isub E dL_minute_66 ?_
    refine or_fT2r (tL_open (Z := Z)  h_m (li_p hI)) E G F lk_120_102 dL_minute_67 (by decide) (by decide) ⟨(Nat.le_of_ble_eq_true rfl), (Nat.le_of_ble_eq_true rfl)⟩ (Nat.le_of_ble_eq_true rfl) (fun _ => ?_) (fun h => absurd h (Nat.lt_irrefl 0))
    refine or_if_eqZ 77 E dL_minute_70 rfl (fun q70 => ?_) (fun q70 => ?_)
    · replace hb55 := ite_n (P := fun r_ : Bool => b55 = r_) (bz_neg q70) hb55
      refine or_iconst (v := nI 0) E rfl dL_minute_77 ?_
      obtain rfl : b55 = false := hb55
      exact or_lv _ rfl J55
    · replace hb55 := ite_p (P := fun r_ : Bool => b55 = r_) q70 hb55
      refine or_iconst (v := nI 1) E rfl dL_minute_73 ?_
      refine or_goto 78 E dL_minute_74 rfl ?_
      obtain rfl : b55 = true := hb55
      exact or_lv _ rfl J55
