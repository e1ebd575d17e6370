theorem fl_10_104 : ow_fl RX10 104 6 10 := ⟨_, rfl, by decide, ow_T_in 177 (by decide +kernel) (by decide +kernel), ow_ok6⟩
theorem fl_10_107 : ow_fl RX10 107 6 8 := ⟨_, rfl, by decide, ow_T_in 173 (by decide +kernel) (by decide +kernel), ow_ok6⟩
theorem fl_10_141 : ow_fl RX10 141 6 14 := ⟨_, rfl, by decide, ow_T_in 185 (by decide +kernel) (by decide +kernel), ow_ok6⟩
theorem fl_10_178 : ow_fl RX10 178 6 12 := ⟨_, rfl, by decide, ow_T_in 181 (by decide +kernel) (by decide +kernel), ow_ok6⟩
theorem fl_10_189 : ow_fl RX10 189 2 0 := ⟨_, rfl, by decide, ow_T_in 75 (by decide +kernel) (by decide +kernel), ow_ok2⟩
theorem fl_10_198 : ow_fl RX10 198 1 5 := ⟨_, rfl, by decide, ow_T_in 120 (by decide +kernel) (by decide +kernel), ow_ok1⟩
theorem fl_10_203 : ow_fl RX10 203 6 2 := ⟨_, rfl, by decide, ow_T_in 161 (by decide +kernel) (by decide +kernel), ow_ok6⟩
theorem fl_10_206 : ow_fl RX10 206 2 1 := ⟨_, rfl, by decide, ow_T_in 77 (by decide +kernel) (by decide +kernel), ow_ok2⟩
theorem fl_10_209 : ow_fl RX10 209 2 2 := ⟨_, rfl, by decide, ow_T_in 79 (by decide +kernel) (by decide +kernel), ow_ok2⟩
theorem fl_10_225 : ow_fl RX10 225 6 0 := ⟨_, rfl, by decide, ow_T_in 156 (by decide +kernel) (by decide +kernel), ow_ok6⟩
theorem fl_10_229 : ow_fl RX10 229 8 2 := ⟨_, rfl, by decide, ow_T_in 56 (by decide +kernel) (by decide +kernel), ow_ok8⟩
theorem fl_10_241 : ow_fl RX10 241 6 4 := ⟨_, rfl, by decide, ow_T_in 165 (by decide +kernel) (by decide +kernel), ow_ok6⟩
theorem fl_10_244 : ow_fl RX10 244 6 5 := ⟨_, rfl, by decide, ow_T_in 167 (by decide +kernel) (by decide +kernel), ow_ok6⟩
theorem fl_10_247 : ow_fl RX10 247 6 13 := ⟨_, rfl, by decide, ow_T_in 183 (by decide +kernel) (by decide +kernel), ow_ok6⟩
theorem fl_10_250 : ow_fl RX10 250 6 15 := ⟨_, rfl, by decide, ow_T_in 187 (by decide +kernel) (by decide +kernel), ow_ok6⟩
theorem fl_10_256 : ow_fl RX10 256 6 16 := ⟨_, rfl, by decide, ow_T_in 189 (by decide +kernel) (by decide +kernel), ow_ok6⟩
theorem fl_10_266 : ow_fl RX10 266 1 1 := ⟨_, rfl, by decide, ow_T_in 109 (by decide +kernel) (by decide +kernel), ow_ok1⟩
theorem fl_10_277 : ow_fl RX10 277 1 2 := ⟨_, rfl, by decide, ow_T_in 112 (by decide +kernel) (by decide +kernel), ow_ok1⟩
theorem fl_10_280 : ow_fl RX10 280 1 3 := ⟨_, rfl, by decide, ow_T_in 115 (by decide +kernel) (by decide +kernel), ow_ok1⟩
theorem fl_10_286 : ow_fl RX10 286 1 7 := ⟨_, rfl, by decide, ow_T_in 126 (by decide +kernel) (by decide +kernel), ow_ok1⟩
theorem fl_10_289 : ow_fl RX10 289 1 6 := ⟨_, rfl, by decide, ow_T_in 123 (by decide +kernel) (by decide +kernel), ow_ok1⟩
theorem fl_10_292 : ow_fl RX10 292 1 8 := ⟨_, rfl, by decide, ow_T_in 129 (by decide +kernel) (by decide +kernel), ow_ok1⟩
theorem fl_10_295 : ow_fl RX10 295 1 9 := ⟨_, rfl, by decide, ow_T_in 132 (by decide +kernel) (by decide +kernel), ow_ok1⟩
theorem fl_10_302 : ow_fl RX10 302 2 3 := ⟨_, rfl, by decide, ow_T_in 82 (by decide +kernel) (by decide +kernel), ow_ok2⟩
theorem fl_10_305 : ow_fl RX10 305 2 4 := ⟨_, rfl, by decide, ow_T_in 85 (by decide +kernel) (by decide +kernel), ow_ok2⟩
theorem lk_10_234 : ow_lv RX10 234 yX8_isLow cX8_isLow 1 (some .boolean) 0 := ⟨ow_T_in 915 (by decide +kernel) (by decide +kernel), ow_T_in 916 (by decide +kernel) (by decide +kernel), ow_T_in 917 (by decide +kernel) (by decide +kernel), ow_T_in 3 (by decide +kernel) (by decide +kernel), ow_T_in 918 (by decide +kernel) (by decide +kernel), ⟨by decide +kernel, by decide +kernel, by decide +kernel⟩⟩
theorem lk_10_237 : ow_lv RX10 237 yX8_untilHorn cX8_untilHorn 2 (some .int) 0 := ⟨ow_T_in 1161 (by decide +kernel) (by decide +kernel), ow_T_in 1162 (by decide +kernel) (by decide +kernel), ow_T_in 1163 (by decide +kernel) (by decide +kernel), ow_T_in 3 (by decide +kernel) (by decide +kernel), ow_T_in 1164 (by decide +kernel) (by decide +kernel), ⟨by decide +kernel, by decide +kernel, by decide +kernel⟩⟩
theorem lk_10_253 : ow_lv RX10 253 yX6_nextPrice cX6_nextPrice 1 (some .int) 0 := ⟨ow_T_in 1029 (by decide +kernel) (by decide +kernel), ow_T_in 1030 (by decide +kernel) (by decide +kernel), ow_T_in 1031 (by decide +kernel) (by decide +kernel), ow_T_in 2 (by decide +kernel) (by decide +kernel), ow_T_in 1032 (by decide +kernel) (by decide +kernel), ⟨by decide +kernel, by decide +kernel, by decide +kernel⟩⟩
theorem lk_10_262 : ow_lv RX10 262 yX10_barrelAt cX10_barrelAt 2 (some (.object "LowWaterAuction$Barrel")) 1 := ⟨ow_T_in 939 (by decide +kernel) (by decide +kernel), ow_T_in 941 (by decide +kernel) (by decide +kernel), ow_T_sel 18 (by decide +kernel) (by decide +kernel), ow_T_in 1 (by decide +kernel) (by decide +kernel), ow_T_in 942 (by decide +kernel) (by decide +kernel), ⟨by decide +kernel, by decide +kernel, by decide +kernel⟩⟩
theorem lk_10_298 : ow_lv RX10 298 yX10_buyerAt cX10_buyerAt 2 (some (.object "LowWaterAuction$Buyer")) 1 := ⟨ow_T_in 1009 (by decide +kernel) (by decide +kernel), ow_T_in 1011 (by decide +kernel) (by decide +kernel), ow_T_sel 20 (by decide +kernel) (by decide +kernel), ow_T_in 1 (by decide +kernel) (by decide +kernel), ow_T_in 1012 (by decide +kernel) (by decide +kernel), ⟨by decide +kernel, by decide +kernel, by decide +kernel⟩⟩
theorem lk_10_315 : ow_lv RX10 315 yX6_whoNods cX6_whoNods 5 (some .int) 0 := ⟨ow_T_in 1241 (by decide +kernel) (by decide +kernel), ow_T_in 1217 (by decide +kernel) (by decide +kernel), ow_T_in 1218 (by decide +kernel) (by decide +kernel), ow_T_in 2 (by decide +kernel) (by decide +kernel), ow_T_in 1219 (by decide +kernel) (by decide +kernel), ⟨by decide +kernel, by decide +kernel, by decide +kernel⟩⟩
def A_minute (x : Nat) (I : ow_I) : Int32 :=
  I ((x + 1) + 1) 2
set_option maxRecDepth 100000 in
set_option maxHeartbeats 400000 in
theorem cA_minute {Z : Nat → Nat} {S : Nat → Option ow_Sh} {I : ow_I} {V : Nat → Nat → Value} {z : Nat} {x : Nat} (h_x : au_S S x)  : ow_Cx Z yX10_minute cX10_minute 1 (some .int) 0 0 0 [.ref x] (S, I, V, z) (ox_s S V z 0 (some (.int (A_minute x I))) I) := by
  refine ow_Cx.off rfl (Nat.le_of_ble_eq_true rfl) (fun X K E G F hk => ?_)
  have E : ow_E X RX10 cX10_minute 1 (ow_rm 0 0 0) := E
  refine or_lv [(0, .ref x)] rfl ?_
  try dsimp only [A_minute] at hk
  refine or_aload_n E rfl dX10_minute_0 ?_
  refine ot_getC E fl_10_10 dX10_minute_1 h_x.1 rfl ?_
  refine ot_getC E fl_10_225 dX10_minute_4 h_x.2.1.1 rfl ?_
  refine ot_getI E fl_10_229 dX10_minute_7 h_x.2.1.2.1 rfl ?_
  exact or_xr E F (fun X' E' F' => or_iret E' F' dX10_minute_10 (Nat.le_of_ble_eq_true rfl) (Nat.le_of_ble_eq_true rfl) (hk.1 rfl))
def A_minutesToHorn (x : Nat) (I : ow_I) : Int32 :=
  T_untilHorn ((x + 1) + 1) I
set_option maxRecDepth 100000 in
set_option maxHeartbeats 400000 in
theorem cA_minutesToHorn {Z : Nat → Nat} {S : Nat → Option ow_Sh} {I : ow_I} {V : Nat → Nat → Value} {z : Nat} {x : Nat} (h_x : au_S S x)  : ow_Cx Z yX10_minutesToHorn cX10_minutesToHorn 1 (some .int) 1 0 0 [.ref x] (S, I, V, z) (ox_s S V z 0 (some (.int (A_minutesToHorn x I))) I) := by
  refine ow_Cx.off rfl (Nat.le_of_ble_eq_true rfl) (fun X K E G F hk => ?_)
  have E : ow_E X RX10 cX10_minutesToHorn 1 (ow_rm 1 0 0) := E
  refine or_lv [(0, .ref x)] rfl ?_
  try dsimp only [A_minutesToHorn] at hk
  refine or_aload_n E rfl dX10_minutesToHorn_0 ?_
  refine ot_getC E fl_10_10 dX10_minutesToHorn_1 h_x.1 rfl ?_
  refine ot_getC E fl_10_225 dX10_minutesToHorn_4 h_x.2.1.1 rfl ?_
  refine or_cV0r (cT_untilHorn  h_x.2.1.2.1 ) E lk_10_237 dX10_minutesToHorn_7 h_x.2.1.2.1 rfl rfl (by decide) (by decide) ⟨(Nat.le_of_ble_eq_true rfl), (Nat.le_of_ble_eq_true rfl)⟩ (Nat.le_of_ble_eq_true rfl) ?_
  exact or_xr E F (fun X' E' F' => or_iret E' F' dX10_minutesToHorn_10 (Nat.le_of_ble_eq_true rfl) (Nat.le_of_ble_eq_true rfl) (hk.1 rfl))
def A_step (x : Nat) (I : ow_I) : Int32 :=
  I (x + 1) 2
set_option maxRecDepth 100000 in
set_option maxHeartbeats 400000 in
theorem cA_step {Z : Nat → Nat} {S : Nat → Option ow_Sh} {I : ow_I} {V : Nat → Nat → Value} {z : Nat} {x : Nat} (h_x : au_S S x)  : ow_Cx Z yX10_step cX10_step 1 (some .int) 0 0 0 [.ref x] (S, I, V, z) (ox_s S V z 0 (some (.int (A_step x I))) I) := by
  refine ow_Cx.off rfl (Nat.le_of_ble_eq_true rfl) (fun X K E G F hk => ?_)
  have E : ow_E X RX10 cX10_step 1 (ow_rm 0 0 0) := E
  refine or_lv [(0, .ref x)] rfl ?_
  try dsimp only [A_step] at hk
  refine or_aload_n E rfl dX10_step_0 ?_
  refine ot_getC E fl_10_10 dX10_step_1 h_x.1 rfl ?_
  refine ot_getI E fl_10_203 dX10_step_4 h_x.2.1.1 rfl ?_
  exact or_xr E F (fun X' E' F' => or_iret E' F' dX10_step_7 (Nat.le_of_ble_eq_true rfl) (Nat.le_of_ble_eq_true rfl) (hk.1 rfl))
def A_sellerCoins (x : Nat) (I : ow_I) : Int32 :=
  I (x + 1) 4
set_option maxRecDepth 100000 in
set_option maxHeartbeats 400000 in
theorem cA_sellerCoins {Z : Nat → Nat} {S : Nat → Option ow_Sh} {I : ow_I} {V : Nat → Nat → Value} {z : Nat} {x : Nat} (h_x : au_S S x)  : ow_Cx Z yX10_sellerCoins cX10_sellerCoins 1 (some .int) 0 0 0 [.ref x] (S, I, V, z) (ox_s S V z 0 (some (.int (A_sellerCoins x I))) I) := by
  refine ow_Cx.off rfl (Nat.le_of_ble_eq_true rfl) (fun X K E G F hk => ?_)
  have E : ow_E X RX10 cX10_sellerCoins 1 (ow_rm 0 0 0) := E
  refine or_lv [(0, .ref x)] rfl ?_
  try dsimp only [A_sellerCoins] at hk
  refine or_aload_n E rfl dX10_sellerCoins_0 ?_
  refine ot_getC E fl_10_10 dX10_sellerCoins_1 h_x.1 rfl ?_
  refine ot_getI E fl_10_241 dX10_sellerCoins_4 h_x.2.1.1 rfl ?_
  exact or_xr E F (fun X' E' F' => or_iret E' F' dX10_sellerCoins_7 (Nat.le_of_ble_eq_true rfl) (Nat.le_of_ble_eq_true rfl) (hk.1 rfl))
def A_houseCoins (x : Nat) (I : ow_I) : Int32 :=
  I (x + 1) 5
set_option maxRecDepth 100000 in
set_option maxHeartbeats 400000 in
theorem cA_houseCoins {Z : Nat → Nat} {S : Nat → Option ow_Sh} {I : ow_I} {V : Nat → Nat → Value} {z : Nat} {x : Nat} (h_x : au_S S x)  : ow_Cx Z yX10_houseCoins cX10_houseCoins 1 (some .int) 0 0 0 [.ref x] (S, I, V, z) (ox_s S V z 0 (some (.int (A_houseCoins x I))) I) := by
  refine ow_Cx.off rfl (Nat.le_of_ble_eq_true rfl) (fun X K E G F hk => ?_)
  have E : ow_E X RX10 cX10_houseCoins 1 (ow_rm 0 0 0) := E
  refine or_lv [(0, .ref x)] rfl ?_
  try dsimp only [A_houseCoins] at hk
  refine or_aload_n E rfl dX10_houseCoins_0 ?_
  refine ot_getC E fl_10_10 dX10_houseCoins_1 h_x.1 rfl ?_
  refine ot_getI E fl_10_244 dX10_houseCoins_4 h_x.2.1.1 rfl ?_
  exact or_xr E F (fun X' E' F' => or_iret E' F' dX10_houseCoins_7 (Nat.le_of_ble_eq_true rfl) (Nat.le_of_ble_eq_true rfl) (hk.1 rfl))
def A_openBarrel (x : Nat) (I : ow_I) : Int32 :=
  I (x + 1) 13
set_option maxRecDepth 100000 in
set_option maxHeartbeats 400000 in
theorem cA_openBarrel {Z : Nat → Nat} {S : Nat → Option ow_Sh} {I : ow_I} {V : Nat → Nat → Value} {z : Nat} {x : Nat} (h_x : au_S S x)  : ow_Cx Z yX10_openBarrel cX10_openBarrel 1 (some .int) 0 0 0 [.ref x] (S, I, V, z) (ox_s S V z 0 (some (.int (A_openBarrel x I))) I) := by
  refine ow_Cx.off rfl (Nat.le_of_ble_eq_true rfl) (fun X K E G F hk => ?_)
  have E : ow_E X RX10 cX10_openBarrel 1 (ow_rm 0 0 0) := E
  refine or_lv [(0, .ref x)] rfl ?_
  try dsimp only [A_openBarrel] at hk
  refine or_aload_n E rfl dX10_openBarrel_0 ?_
  refine ot_getC E fl_10_10 dX10_openBarrel_1 h_x.1 rfl ?_
  refine ot_getI E fl_10_247 dX10_openBarrel_4 h_x.2.1.1 rfl ?_
  exact or_xr E F (fun X' E' F' => or_iret E' F' dX10_openBarrel_7 (Nat.le_of_ble_eq_true rfl) (Nat.le_of_ble_eq_true rfl) (hk.1 rfl))
def A_bid (x : Nat) (I : ow_I) : Int32 :=
  I (x + 1) 14
set_option maxRecDepth 100000 in
set_option maxHeartbeats 400000 in
theorem cA_bid {Z : Nat → Nat} {S : Nat → Option ow_Sh} {I : ow_I} {V : Nat → Nat → Value} {z : Nat} {x : Nat} (h_x : au_S S x)  : ow_Cx Z yX10_bid cX10_bid 1 (some .int) 0 0 0 [.ref x] (S, I, V, z) (ox_s S V z 0 (some (.int (A_bid x I))) I) := by
  refine ow_Cx.off rfl (Nat.le_of_ble_eq_true rfl) (fun X K E G F hk => ?_)
  have E : ow_E X RX10 cX10_bid 1 (ow_rm 0 0 0) := E
  refine or_lv [(0, .ref x)] rfl ?_
  try dsimp only [A_bid] at hk
  refine or_aload_n E rfl dX10_bid_0 ?_
  refine ot_getC E fl_10_10 dX10_bid_1 h_x.1 rfl ?_
  refine ot_getI E fl_10_141 dX10_bid_4 h_x.2.1.1 rfl ?_
  exact or_xr E F (fun X' E' F' => or_iret E' F' dX10_bid_7 (Nat.le_of_ble_eq_true rfl) (Nat.le_of_ble_eq_true rfl) (hk.1 rfl))
def A_leader (x : Nat) (I : ow_I) : Int32 :=
  I (x + 1) 15
set_option maxRecDepth 100000 in
set_option maxHeartbeats 400000 in
theorem cA_leader {Z : Nat → Nat} {S : Nat → Option ow_Sh} {I : ow_I} {V : Nat → Nat → Value} {z : Nat} {x : Nat} (h_x : au_S S x)  : ow_Cx Z yX10_leader cX10_leader 1 (some .int) 0 0 0 [.ref x] (S, I, V, z) (ox_s S V z 0 (some (.int (A_leader x I))) I) := by
  refine ow_Cx.off rfl (Nat.le_of_ble_eq_true rfl) (fun X K E G F hk => ?_)
  have E : ow_E X RX10 cX10_leader 1 (ow_rm 0 0 0) := E
  refine or_lv [(0, .ref x)] rfl ?_
  try dsimp only [A_leader] at hk
  refine or_aload_n E rfl dX10_leader_0 ?_
  refine ot_getC E fl_10_10 dX10_leader_1 h_x.1 rfl ?_
  refine ot_getI E fl_10_250 dX10_leader_4 h_x.2.1.1 rfl ?_
  exact or_xr E F (fun X' E' F' => or_iret E' F' dX10_leader_7 (Nat.le_of_ble_eq_true rfl) (Nat.le_of_ble_eq_true rfl) (hk.1 rfl))
def A_quiet (x : Nat) (I : ow_I) : Int32 :=
  I (x + 1) 16
set_option maxRecDepth 100000 in
set_option maxHeartbeats 400000 in
theorem cA_quiet {Z : Nat → Nat} {S : Nat → Option ow_Sh} {I : ow_I} {V : Nat → Nat → Value} {z : Nat} {x : Nat} (h_x : au_S S x)  : ow_Cx Z yX10_quiet cX10_quiet 1 (some .int) 0 0 0 [.ref x] (S, I, V, z) (ox_s S V z 0 (some (.int (A_quiet x I))) I) := by
  refine ow_Cx.off rfl (Nat.le_of_ble_eq_true rfl) (fun X K E G F hk => ?_)
  have E : ow_E X RX10 cX10_quiet 1 (ow_rm 0 0 0) := E
  refine or_lv [(0, .ref x)] rfl ?_
  try dsimp only [A_quiet] at hk
  refine or_aload_n E rfl dX10_quiet_0 ?_
  refine ot_getC E fl_10_10 dX10_quiet_1 h_x.1 rfl ?_
  refine ot_getI E fl_10_256 dX10_quiet_4 h_x.2.1.1 rfl ?_
  exact or_xr E F (fun X' E' F' => or_iret E' F' dX10_quiet_7 (Nat.le_of_ble_eq_true rfl) (Nat.le_of_ble_eq_true rfl) (hk.1 rfl))
def A_queueLength (x : Nat) (I : ow_I) : Int32 :=
  I (x + 1) 12
set_option maxRecDepth 100000 in
set_option maxHeartbeats 400000 in
theorem cA_queueLength {Z : Nat → Nat} {S : Nat → Option ow_Sh} {I : ow_I} {V : Nat → Nat → Value} {z : Nat} {x : Nat} (h_x : au_S S x)  : ow_Cx Z yX10_queueLength cX10_queueLength 1 (some .int) 0 0 0 [.ref x] (S, I, V, z) (ox_s S V z 0 (some (.int (A_queueLength x I))) I) := by
  refine ow_Cx.off rfl (Nat.le_of_ble_eq_true rfl) (fun X K E G F hk => ?_)
  have E : ow_E X RX10 cX10_queueLength 1 (ow_rm 0 0 0) := E
  refine or_lv [(0, .ref x)] rfl ?_
  try dsimp only [A_queueLength] at hk
  refine or_aload_n E rfl dX10_queueLength_0 ?_
  refine ot_getC E fl_10_10 dX10_queueLength_1 h_x.1 rfl ?_
  refine ot_getI E fl_10_178 dX10_queueLength_4 h_x.2.1.1 rfl ?_
  exact or_xr E F (fun X' E' F' => or_iret E' F' dX10_queueLength_7 (Nat.le_of_ble_eq_true rfl) (Nat.le_of_ble_eq_true rfl) (hk.1 rfl))
def A_barrelCount (x : Nat) (I : ow_I) : Int32 :=
  I (x + 1) 10
set_option maxRecDepth 100000 in
set_option maxHeartbeats 400000 in
theorem cA_barrelCount {Z : Nat → Nat} {S : Nat → Option ow_Sh} {I : ow_I} {V : Nat → Nat → Value} {z : Nat} {x : Nat} (h_x : au_S S x)  : ow_Cx Z yX10_barrelCount cX10_barrelCount 1 (some .int) 0 0 0 [.ref x] (S, I, V, z) (ox_s S V z 0 (some (.int (A_barrelCount x I))) I) := by
  refine ow_Cx.off rfl (Nat.le_of_ble_eq_true rfl) (fun X K E G F hk => ?_)
  have E : ow_E X RX10 cX10_barrelCount 1 (ow_rm 0 0 0) := E
  refine or_lv [(0, .ref x)] rfl ?_
  try dsimp only [A_barrelCount] at hk
  refine or_aload_n E rfl dX10_barrelCount_0 ?_
  refine ot_getC E fl_10_10 dX10_barrelCount_1 h_x.1 rfl ?_
  refine ot_getI E fl_10_104 dX10_barrelCount_4 h_x.2.1.1 rfl ?_
  exact or_xr E F (fun X' E' F' => or_iret E' F' dX10_barrelCount_7 (Nat.le_of_ble_eq_true rfl) (Nat.le_of_ble_eq_true rfl) (hk.1 rfl))
def A_buyerCount (x : Nat) (I : ow_I) : Int32 :=
  I (x + 1) 8
set_option maxRecDepth 100000 in
set_option maxHeartbeats 400000 in
theorem cA_buyerCount {Z : Nat → Nat} {S : Nat → Option ow_Sh} {I : ow_I} {V : Nat → Nat → Value} {z : Nat} {x : Nat} (h_x : au_S S x)  : ow_Cx Z yX10_buyerCount cX10_buyerCount 1 (some .int) 0 0 0 [.ref x] (S, I, V, z) (ox_s S V z 0 (some (.int (A_buyerCount x I))) I) := by
  refine ow_Cx.off rfl (Nat.le_of_ble_eq_true rfl) (fun X K E G F hk => ?_)
  have E : ow_E X RX10 cX10_buyerCount 1 (ow_rm 0 0 0) := E
  refine or_lv [(0, .ref x)] rfl ?_
  try dsimp only [A_buyerCount] at hk
  refine or_aload_n E rfl dX10_buyerCount_0 ?_
  refine ot_getC E fl_10_10 dX10_buyerCount_1 h_x.1 rfl ?_
  refine ot_getI E fl_10_107 dX10_buyerCount_4 h_x.2.1.1 rfl ?_
  exact or_xr E F (fun X' E' F' => or_iret E' F' dX10_buyerCount_7 (Nat.le_of_ble_eq_true rfl) (Nat.le_of_ble_eq_true rfl) (hk.1 rfl))
def A_isOpen (x : Nat) (I : ow_I) : Bool :=
  T_isLow ((x + 1) + 1) I
set_option maxRecDepth 100000 in
set_option maxHeartbeats 400000 in
theorem cA_isOpen {Z : Nat → Nat} {S : Nat → Option ow_Sh} {I : ow_I} {V : Nat → Nat → Value} {z : Nat} {x : Nat} (h_x : au_S S x)  : ow_Cx Z yX10_isOpen cX10_isOpen 1 (some .boolean) 1 0 0 [.ref x] (S, I, V, z) (ox_s S V z 0 (some (.int (bi (A_isOpen x I)))) I) := by
  refine ow_Cx.off rfl (Nat.le_of_ble_eq_true rfl) (fun X K E G F hk => ?_)
  have E : ow_E X RX10 cX10_isOpen 1 (ow_rm 1 0 0) := E
  refine or_lv [(0, .ref x)] rfl ?_
  try dsimp only [A_isOpen] at hk
  refine or_aload_n E rfl dX10_isOpen_0 ?_
  refine ot_getC E fl_10_10 dX10_isOpen_1 h_x.1 rfl ?_
  refine ot_getC E fl_10_225 dX10_isOpen_4 h_x.2.1.1 rfl ?_
  refine or_cV0r (cT_isLow  h_x.2.1.2.1 ) E lk_10_234 dX10_isOpen_7 h_x.2.1.2.1 rfl rfl (by decide) (by decide) ⟨(Nat.le_of_ble_eq_true rfl), (Nat.le_of_ble_eq_true rfl)⟩ (Nat.le_of_ble_eq_true rfl) ?_
  exact or_xr E F (fun X' E' F' => or_zret E' F' dX10_isOpen_10 (Nat.le_of_ble_eq_true rfl) (Nat.le_of_ble_eq_true rfl) (bi_nar _) (hk.1 rfl))
def A_nextBid (x : Nat) (I : ow_I) : Int32 :=
  K_nextPrice (x + 1) I
set_option maxRecDepth 100000 in
set_option maxHeartbeats 400000 in
theorem cA_nextBid {Z : Nat → Nat} {S : Nat → Option ow_Sh} {I : ow_I} {V : Nat → Nat → Value} {z : Nat} {x : Nat} (h_x : au_S S x) (hV : k_V (x + 1) I) : ow_Cx Z yX10_nextBid cX10_nextBid 1 (some .int) 1 0 0 [.ref x] (S, I, V, z) (ox_s S V z 0 (some (.int (A_nextBid x I))) I) := by
  refine ow_Cx.off rfl (Nat.le_of_ble_eq_true rfl) (fun X K E G F hk => ?_)
  have E : ow_E X RX10 cX10_nextBid 1 (ow_rm 1 0 0) := E
  refine or_lv [(0, .ref x)] rfl ?_
  try dsimp only [A_nextBid] at hk
  refine or_aload_n E rfl dX10_nextBid_0 ?_
  refine ot_getC E fl_10_10 dX10_nextBid_1 h_x.1 rfl ?_
  refine or_cV0r (cK_nextPrice  h_x.2.1 hV) E lk_10_253 dX10_nextBid_4 h_x.2.1.1 rfl rfl (by decide) (by decide) ⟨(Nat.le_of_ble_eq_true rfl), (Nat.le_of_ble_eq_true rfl)⟩ (Nat.le_of_ble_eq_true rfl) ?_
  exact or_xr E F (fun X' E' F' => or_iret E' F' dX10_nextBid_7 (Nat.le_of_ble_eq_true rfl) (Nat.le_of_ble_eq_true rfl) (hk.1 rfl))
def A_nextNodder (x : Nat) (I : ow_I) : Int32 :=
  K_whoNods (x + 1) I
set_option maxRecDepth 100000 in
set_option maxHeartbeats 400000 in
theorem cA_nextNodder {Z : Nat → Nat} {S : Nat → Option ow_Sh} {I : ow_I} {V : Nat → Nat → Value} {z : Nat} {x : Nat} (h_x : au_S S x) (hV : k_V (x + 1) I) : ow_Cx Z yX10_nextNodder cX10_nextNodder 1 (some .int) 3 0 0 [.ref x] (S, I, V, z) (ox_s S V z 0 (some (.int (A_nextNodder x I))) I) := by
  refine ow_Cx.off rfl (Nat.le_of_ble_eq_true rfl) (fun X K E G F hk => ?_)
  have E : ow_E X RX10 cX10_nextNodder 1 (ow_rm 3 0 0) := E
  refine or_lv [(0, .ref x)] rfl ?_
  try dsimp only [A_nextNodder] at hk
  refine or_aload_n E rfl dX10_nextNodder_0 ?_
  refine ot_getC E fl_10_10 dX10_nextNodder_1 h_x.1 rfl ?_
  refine or_cV0r (cK_whoNods  h_x.2.1 hV) E lk_10_315 dX10_nextNodder_4 h_x.2.1.1 rfl rfl (by decide) (by decide) ⟨(Nat.le_of_ble_eq_true rfl), (Nat.le_of_ble_eq_true rfl)⟩ (Nat.le_of_ble_eq_true rfl) ?_
  exact or_xr E F (fun X' E' F' => or_iret E' F' dX10_nextNodder_7 (Nat.le_of_ble_eq_true rfl) (Nat.le_of_ble_eq_true rfl) (hk.1 rfl))
def A_eels (x : Nat) (b : Int32) (I : ow_I) : Int32 :=
  I (x + 1 + 11 + 2 * (tn b)) 1
set_option maxRecDepth 100000 in
set_option maxHeartbeats 400000 in
theorem cA_eels {Z : Nat → Nat} {S : Nat → Option ow_Sh} {I : ow_I} {V : Nat → Nat → Value} {z : Nat} {x : Nat} {b : Int32} (h_x : au_S S x) (hV : k_V (x + 1) I) (hb : 0 ≤ b ∧ tn b < tn (I (x + 1) 10)) : ow_Cx Z yX10_eels cX10_eels 2 (some .int) 3 0 0 [.ref x, .int b] (S, I, V, z) (ox_s S V z 0 (some (.int (A_eels x b I))) I) := by
  refine ow_Cx.off rfl (Nat.le_of_ble_eq_true rfl) (fun X K E G F hk => ?_)
  have E : ow_E X RX10 cX10_eels 2 (ow_rm 3 0 0) := E
  refine or_lv [(0, .ref x), (1, .int b)] rfl ?_
  try dsimp only [A_eels] at hk
  refine or_aload_n E rfl dX10_eels_0 ?_
  refine or_iload_n E rfl dX10_eels_1 ?_
  refine or_fV1r (cA_barrelAt (Z := Z) h_x hV hb) E G F lk_10_262 dX10_eels_2 h_x.1 rfl rfl (by decide) (by decide) ⟨(Nat.le_of_ble_eq_true rfl), (Nat.le_of_ble_eq_true rfl)⟩ (Nat.le_of_ble_eq_true rfl) (fun _ => ?_) (fun h => absurd h (Nat.lt_irrefl 0))
  refine ot_getI E fl_10_266 dX10_eels_5 (mk_br2 h_x.2.1 (lt20 hV hb)).1 rfl ?_
  exact or_xr E F (fun X' E' F' => or_iret E' F' dX10_eels_8 (Nat.le_of_ble_eq_true rfl) (Nat.le_of_ble_eq_true rfl) (hk.1 rfl))
def A_totalLength (x : Nat) (b : Int32) (I : ow_I) : Int32 :=
  I (x + 1 + 11 + 2 * (tn b)) 2
set_option maxRecDepth 100000 in
set_option maxHeartbeats 400000 in
theorem cA_totalLength {Z : Nat → Nat} {S : Nat → Option ow_Sh} {I : ow_I} {V : Nat → Nat → Value} {z : Nat} {x : Nat} {b : Int32} (h_x : au_S S x) (hV : k_V (x + 1) I) (hb : 0 ≤ b ∧ tn b < tn (I (x + 1) 10)) : ow_Cx Z yX10_totalLength cX10_totalLength 2 (some .int) 3 0 0 [.ref x, .int b] (S, I, V, z) (ox_s S V z 0 (some (.int (A_totalLength x b I))) I) := by
  refine ow_Cx.off rfl (Nat.le_of_ble_eq_true rfl) (fun X K E G F hk => ?_)
  have E : ow_E X RX10 cX10_totalLength 2 (ow_rm 3 0 0) := E
  refine or_lv [(0, .ref x), (1, .int b)] rfl ?_
  try dsimp only [A_totalLength] at hk
  refine or_aload_n E rfl dX10_totalLength_0 ?_
  refine or_iload_n E rfl dX10_totalLength_1 ?_
  refine or_fV1r (cA_barrelAt (Z := Z) h_x hV hb) E G F lk_10_262 dX10_totalLength_2 h_x.1 rfl rfl (by decide) (by decide) ⟨(Nat.le_of_ble_eq_true rfl), (Nat.le_of_ble_eq_true rfl)⟩ (Nat.le_of_ble_eq_true rfl) (fun _ => ?_) (fun h => absurd h (Nat.lt_irrefl 0))
  refine ot_getI E fl_10_277 dX10_totalLength_5 (mk_br2 h_x.2.1 (lt20 hV hb)).1 rfl ?_
  exact or_xr E F (fun X' E' F' => or_iret E' F' dX10_totalLength_8 (Nat.le_of_ble_eq_true rfl) (Nat.le_of_ble_eq_true rfl) (hk.1 rfl))
def A_greatestLength (x : Nat) (b : Int32) (I : ow_I) : Int32 :=
  I (x + 1 + 11 + 2 * (tn b)) 3
set_option maxRecDepth 100000 in
set_option maxHeartbeats 400000 in
theorem cA_greatestLength {Z : Nat → Nat} {S : Nat → Option ow_Sh} {I : ow_I} {V : Nat → Nat → Value} {z : Nat} {x : Nat} {b : Int32} (h_x : au_S S x) (hV : k_V (x + 1) I) (hb : 0 ≤ b ∧ tn b < tn (I (x + 1) 10)) : ow_Cx Z yX10_greatestLength cX10_greatestLength 2 (some .int) 3 0 0 [.ref x, .int b] (S, I, V, z) (ox_s S V z 0 (some (.int (A_greatestLength x b I))) I) := by
  refine ow_Cx.off rfl (Nat.le_of_ble_eq_true rfl) (fun X K E G F hk => ?_)
  have E : ow_E X RX10 cX10_greatestLength 2 (ow_rm 3 0 0) := E
  refine or_lv [(0, .ref x), (1, .int b)] rfl ?_
  try dsimp only [A_greatestLength] at hk
  refine or_aload_n E rfl dX10_greatestLength_0 ?_
  refine or_iload_n E rfl dX10_greatestLength_1 ?_
  refine or_fV1r (cA_barrelAt (Z := Z) h_x hV hb) E G F lk_10_262 dX10_greatestLength_2 h_x.1 rfl rfl (by decide) (by decide) ⟨(Nat.le_of_ble_eq_true rfl), (Nat.le_of_ble_eq_true rfl)⟩ (Nat.le_of_ble_eq_true rfl) (fun _ => ?_) (fun h => absurd h (Nat.lt_irrefl 0))
  refine ot_getI E fl_10_280 dX10_greatestLength_5 (mk_br2 h_x.2.1 (lt20 hV hb)).1 rfl ?_
  exact or_xr E F (fun X' E' F' => or_iret E' F' dX10_greatestLength_8 (Nat.le_of_ble_eq_true rfl) (Nat.le_of_ble_eq_true rfl) (hk.1 rfl))
def A_reserve (x : Nat) (b : Int32) (I : ow_I) : Int32 :=
  I (x + 1 + 11 + 2 * (tn b)) 5
set_option maxRecDepth 100000 in
set_option maxHeartbeats 400000 in
theorem cA_reserve {Z : Nat → Nat} {S : Nat → Option ow_Sh} {I : ow_I} {V : Nat → Nat → Value} {z : Nat} {x : Nat} {b : Int32} (h_x : au_S S x) (hV : k_V (x + 1) I) (hb : 0 ≤ b ∧ tn b < tn (I (x + 1) 10)) : ow_Cx Z yX10_reserve cX10_reserve 2 (some .int) 3 0 0 [.ref x, .int b] (S, I, V, z) (ox_s S V z 0 (some (.int (A_reserve x b I))) I) := by
  refine ow_Cx.off rfl (Nat.le_of_ble_eq_true rfl) (fun X K E G F hk => ?_)
  have E : ow_E X RX10 cX10_reserve 2 (ow_rm 3 0 0) := E
  refine or_lv [(0, .ref x), (1, .int b)] rfl ?_
  try dsimp only [A_reserve] at hk
  refine or_aload_n E rfl dX10_reserve_0 ?_
  refine or_iload_n E rfl dX10_reserve_1 ?_
  refine or_fV1r (cA_barrelAt (Z := Z) h_x hV hb) E G F lk_10_262 dX10_reserve_2 h_x.1 rfl rfl (by decide) (by decide) ⟨(Nat.le_of_ble_eq_true rfl), (Nat.le_of_ble_eq_true rfl)⟩ (Nat.le_of_ble_eq_true rfl) (fun _ => ?_) (fun h => absurd h (Nat.lt_irrefl 0))
  refine ot_getI E fl_10_198 dX10_reserve_5 (mk_br2 h_x.2.1 (lt20 hV hb)).1 rfl ?_
  exact or_xr E F (fun X' E' F' => or_iret E' F' dX10_reserve_8 (Nat.le_of_ble_eq_true rfl) (Nat.le_of_ble_eq_true rfl) (hk.1 rfl))
def A_stateOf (x : Nat) (b : Int32) (I : ow_I) : Int32 :=
  I (x + 1 + 11 + 2 * (tn b)) 7
set_option maxRecDepth 100000 in
set_option maxHeartbeats 400000 in
theorem cA_stateOf {Z : Nat → Nat} {S : Nat → Option ow_Sh} {I : ow_I} {V : Nat → Nat → Value} {z : Nat} {x : Nat} {b : Int32} (h_x : au_S S x) (hV : k_V (x + 1) I) (hb : 0 ≤ b ∧ tn b < tn (I (x + 1) 10)) : ow_Cx Z yX10_stateOf cX10_stateOf 2 (some .int) 3 0 0 [.ref x, .int b] (S, I, V, z) (ox_s S V z 0 (some (.int (A_stateOf x b I))) I) := by
  refine ow_Cx.off rfl (Nat.le_of_ble_eq_true rfl) (fun X K E G F hk => ?_)
  have E : ow_E X RX10 cX10_stateOf 2 (ow_rm 3 0 0) := E
  refine or_lv [(0, .ref x), (1, .int b)] rfl ?_
  try dsimp only [A_stateOf] at hk
  refine or_aload_n E rfl dX10_stateOf_0 ?_
  refine or_iload_n E rfl dX10_stateOf_1 ?_
  refine or_fV1r (cA_barrelAt (Z := Z) h_x hV hb) E G F lk_10_262 dX10_stateOf_2 h_x.1 rfl rfl (by decide) (by decide) ⟨(Nat.le_of_ble_eq_true rfl), (Nat.le_of_ble_eq_true rfl)⟩ (Nat.le_of_ble_eq_true rfl) (fun _ => ?_) (fun h => absurd h (Nat.lt_irrefl 0))
  refine ot_getI E fl_10_286 dX10_stateOf_5 (mk_br2 h_x.2.1 (lt20 hV hb)).1 rfl ?_
  exact or_xr E F (fun X' E' F' => or_iret E' F' dX10_stateOf_8 (Nat.le_of_ble_eq_true rfl) (Nat.le_of_ble_eq_true rfl) (hk.1 rfl))
def A_returns (x : Nat) (b : Int32) (I : ow_I) : Int32 :=
  I (x + 1 + 11 + 2 * (tn b)) 6
set_option maxRecDepth 100000 in
set_option maxHeartbeats 400000 in
theorem cA_returns {Z : Nat → Nat} {S : Nat → Option ow_Sh} {I : ow_I} {V : Nat → Nat → Value} {z : Nat} {x : Nat} {b : Int32} (h_x : au_S S x) (hV : k_V (x + 1) I) (hb : 0 ≤ b ∧ tn b < tn (I (x + 1) 10)) : ow_Cx Z yX10_returns cX10_returns 2 (some .int) 3 0 0 [.ref x, .int b] (S, I, V, z) (ox_s S V z 0 (some (.int (A_returns x b I))) I) := by
  refine ow_Cx.off rfl (Nat.le_of_ble_eq_true rfl) (fun X K E G F hk => ?_)
  have E : ow_E X RX10 cX10_returns 2 (ow_rm 3 0 0) := E
  refine or_lv [(0, .ref x), (1, .int b)] rfl ?_
  try dsimp only [A_returns] at hk
  refine or_aload_n E rfl dX10_returns_0 ?_
  refine or_iload_n E rfl dX10_returns_1 ?_
  refine or_fV1r (cA_barrelAt (Z := Z) h_x hV hb) E G F lk_10_262 dX10_returns_2 h_x.1 rfl rfl (by decide) (by decide) ⟨(Nat.le_of_ble_eq_true rfl), (Nat.le_of_ble_eq_true rfl)⟩ (Nat.le_of_ble_eq_true rfl) (fun _ => ?_) (fun h => absurd h (Nat.lt_irrefl 0))
  refine ot_getI E fl_10_289 dX10_returns_5 (mk_br2 h_x.2.1 (lt20 hV hb)).1 rfl ?_
  exact or_xr E F (fun X' E' F' => or_iret E' F' dX10_returns_8 (Nat.le_of_ble_eq_true rfl) (Nat.le_of_ble_eq_true rfl) (hk.1 rfl))
def A_buyerOf (x : Nat) (b : Int32) (I : ow_I) : Int32 :=
  I (x + 1 + 11 + 2 * (tn b)) 8
set_option maxRecDepth 100000 in
set_option maxHeartbeats 400000 in
theorem cA_buyerOf {Z : Nat → Nat} {S : Nat → Option ow_Sh} {I : ow_I} {V : Nat → Nat → Value} {z : Nat} {x : Nat} {b : Int32} (h_x : au_S S x) (hV : k_V (x + 1) I) (hb : 0 ≤ b ∧ tn b < tn (I (x + 1) 10)) : ow_Cx Z yX10_buyerOf cX10_buyerOf 2 (some .int) 3 0 0 [.ref x, .int b] (S, I, V, z) (ox_s S V z 0 (some (.int (A_buyerOf x b I))) I) := by
  refine ow_Cx.off rfl (Nat.le_of_ble_eq_true rfl) (fun X K E G F hk => ?_)
  have E : ow_E X RX10 cX10_buyerOf 2 (ow_rm 3 0 0) := E
  refine or_lv [(0, .ref x), (1, .int b)] rfl ?_
  try dsimp only [A_buyerOf] at hk
  refine or_aload_n E rfl dX10_buyerOf_0 ?_
  refine or_iload_n E rfl dX10_buyerOf_1 ?_
  refine or_fV1r (cA_barrelAt (Z := Z) h_x hV hb) E G F lk_10_262 dX10_buyerOf_2 h_x.1 rfl rfl (by decide) (by decide) ⟨(Nat.le_of_ble_eq_true rfl), (Nat.le_of_ble_eq_true rfl)⟩ (Nat.le_of_ble_eq_true rfl) (fun _ => ?_) (fun h => absurd h (Nat.lt_irrefl 0))
  refine ot_getI E fl_10_292 dX10_buyerOf_5 (mk_br2 h_x.2.1 (lt20 hV hb)).1 rfl ?_
  exact or_xr E F (fun X' E' F' => or_iret E' F' dX10_buyerOf_8 (Nat.le_of_ble_eq_true rfl) (Nat.le_of_ble_eq_true rfl) (hk.1 rfl))
def A_priceOf (x : Nat) (b : Int32) (I : ow_I) : Int32 :=
  I (x + 1 + 11 + 2 * (tn b)) 9
set_option maxRecDepth 100000 in
set_option maxHeartbeats 400000 in
theorem cA_priceOf {Z : Nat → Nat} {S : Nat → Option ow_Sh} {I : ow_I} {V : Nat → Nat → Value} {z : Nat} {x : Nat} {b : Int32} (h_x : au_S S x) (hV : k_V (x + 1) I) (hb : 0 ≤ b ∧ tn b < tn (I (x + 1) 10)) : ow_Cx Z yX10_priceOf cX10_priceOf 2 (some .int) 3 0 0 [.ref x, .int b] (S, I, V, z) (ox_s S V z 0 (some (.int (A_priceOf x b I))) I) := by
  refine ow_Cx.off rfl (Nat.le_of_ble_eq_true rfl) (fun X K E G F hk => ?_)
  have E : ow_E X RX10 cX10_priceOf 2 (ow_rm 3 0 0) := E
  refine or_lv [(0, .ref x), (1, .int b)] rfl ?_
  try dsimp only [A_priceOf] at hk
  refine or_aload_n E rfl dX10_priceOf_0 ?_
  refine or_iload_n E rfl dX10_priceOf_1 ?_
  refine or_fV1r (cA_barrelAt (Z := Z) h_x hV hb) E G F lk_10_262 dX10_priceOf_2 h_x.1 rfl rfl (by decide) (by decide) ⟨(Nat.le_of_ble_eq_true rfl), (Nat.le_of_ble_eq_true rfl)⟩ (Nat.le_of_ble_eq_true rfl) (fun _ => ?_) (fun h => absurd h (Nat.lt_irrefl 0))
  refine ot_getI E fl_10_295 dX10_priceOf_5 (mk_br2 h_x.2.1 (lt20 hV hb)).1 rfl ?_
  exact or_xr E F (fun X' E' F' => or_iret E' F' dX10_priceOf_8 (Nat.le_of_ble_eq_true rfl) (Nat.le_of_ble_eq_true rfl) (hk.1 rfl))
def A_purse (x : Nat) (y : Int32) (I : ow_I) : Int32 :=
  I (x + 1 + 5 + (tn y)) 0
set_option maxRecDepth 100000 in
set_option maxHeartbeats 400000 in
theorem cA_purse {Z : Nat → Nat} {S : Nat → Option ow_Sh} {I : ow_I} {V : Nat → Nat → Value} {z : Nat} {x : Nat} {y : Int32} (h_x : au_S S x) (hV : k_V (x + 1) I) (hy : 0 ≤ y ∧ tn y < tn (I (x + 1) 8)) : ow_Cx Z yX10_purse cX10_purse 2 (some .int) 3 0 0 [.ref x, .int y] (S, I, V, z) (ox_s S V z 0 (some (.int (A_purse x y I))) I) := by
  refine ow_Cx.off rfl (Nat.le_of_ble_eq_true rfl) (fun X K E G F hk => ?_)
  have E : ow_E X RX10 cX10_purse 2 (ow_rm 3 0 0) := E
  refine or_lv [(0, .ref x), (1, .int y)] rfl ?_
  try dsimp only [A_purse] at hk
  refine or_aload_n E rfl dX10_purse_0 ?_
  refine or_iload_n E rfl dX10_purse_1 ?_
  refine or_fV1r (cA_buyerAt (Z := Z) h_x hV hy) E G F lk_10_298 dX10_purse_2 h_x.1 rfl rfl (by decide) (by decide) ⟨(Nat.le_of_ble_eq_true rfl), (Nat.le_of_ble_eq_true rfl)⟩ (Nat.le_of_ble_eq_true rfl) (fun _ => ?_) (fun h => absurd h (Nat.lt_irrefl 0))
  refine ot_getI E fl_10_189 dX10_purse_5 (mk_by2 h_x.2.1 (lt06 hV hy)) rfl ?_
  exact or_xr E F (fun X' E' F' => or_iret E' F' dX10_purse_8 (Nat.le_of_ble_eq_true rfl) (Nat.le_of_ble_eq_true rfl) (hk.1 rfl))
def A_style (x : Nat) (y : Int32) (I : ow_I) : Int32 :=
  I (x + 1 + 5 + (tn y)) 1
set_option maxRecDepth 100000 in
set_option maxHeartbeats 400000 in
theorem cA_style {Z : Nat → Nat} {S : Nat → Option ow_Sh} {I : ow_I} {V : Nat → Nat → Value} {z : Nat} {x : Nat} {y : Int32} (h_x : au_S S x) (hV : k_V (x + 1) I) (hy : 0 ≤ y ∧ tn y < tn (I (x + 1) 8)) : ow_Cx Z yX10_style cX10_style 2 (some .int) 3 0 0 [.ref x, .int y] (S, I, V, z) (ox_s S V z 0 (some (.int (A_style x y I))) I) := by
  refine ow_Cx.off rfl (Nat.le_of_ble_eq_true rfl) (fun X K E G F hk => ?_)
  have E : ow_E X RX10 cX10_style 2 (ow_rm 3 0 0) := E
  refine or_lv [(0, .ref x), (1, .int y)] rfl ?_
  try dsimp only [A_style] at hk
  refine or_aload_n E rfl dX10_style_0 ?_
  refine or_iload_n E rfl dX10_style_1 ?_
  refine or_fV1r (cA_buyerAt (Z := Z) h_x hV hy) E G F lk_10_298 dX10_style_2 h_x.1 rfl rfl (by decide) (by decide) ⟨(Nat.le_of_ble_eq_true rfl), (Nat.le_of_ble_eq_true rfl)⟩ (Nat.le_of_ble_eq_true rfl) (fun _ => ?_) (fun h => absurd h (Nat.lt_irrefl 0))
  refine ot_getI E fl_10_206 dX10_style_5 (mk_by2 h_x.2.1 (lt06 hV hy)) rfl ?_
  exact or_xr E F (fun X' E' F' => or_iret E' F' dX10_style_8 (Nat.le_of_ble_eq_true rfl) (Nat.le_of_ble_eq_true rfl) (hk.1 rfl))
def A_factor (x : Nat) (y : Int32) (I : ow_I) : Int32 :=
  I (x + 1 + 5 + (tn y)) 2
set_option maxRecDepth 100000 in
set_option maxHeartbeats 400000 in
theorem cA_factor {Z : Nat → Nat} {S : Nat → Option ow_Sh} {I : ow_I} {V : Nat → Nat → Value} {z : Nat} {x : Nat} {y : Int32} (h_x : au_S S x) (hV : k_V (x + 1) I) (hy : 0 ≤ y ∧ tn y < tn (I (x + 1) 8)) : ow_Cx Z yX10_factor cX10_factor 2 (some .int) 3 0 0 [.ref x, .int y] (S, I, V, z) (ox_s S V z 0 (some (.int (A_factor x y I))) I) := by
  refine ow_Cx.off rfl (Nat.le_of_ble_eq_true rfl) (fun X K E G F hk => ?_)
  have E : ow_E X RX10 cX10_factor 2 (ow_rm 3 0 0) := E
  refine or_lv [(0, .ref x), (1, .int y)] rfl ?_
  try dsimp only [A_factor] at hk
  refine or_aload_n E rfl dX10_factor_0 ?_
  refine or_iload_n E rfl dX10_factor_1 ?_
  refine or_fV1r (cA_buyerAt (Z := Z) h_x hV hy) E G F lk_10_298 dX10_factor_2 h_x.1 rfl rfl (by decide) (by decide) ⟨(Nat.le_of_ble_eq_true rfl), (Nat.le_of_ble_eq_true rfl)⟩ (Nat.le_of_ble_eq_true rfl) (fun _ => ?_) (fun h => absurd h (Nat.lt_irrefl 0))
  refine ot_getI E fl_10_209 dX10_factor_5 (mk_by2 h_x.2.1 (lt06 hV hy)) rfl ?_
  exact or_xr E F (fun X' E' F' => or_iret E' F' dX10_factor_8 (Nat.le_of_ble_eq_true rfl) (Nat.le_of_ble_eq_true rfl) (hk.1 rfl))
def A_bought (x : Nat) (y : Int32) (I : ow_I) : Int32 :=
  I (x + 1 + 5 + (tn y)) 3
set_option maxRecDepth 100000 in
set_option maxHeartbeats 400000 in
theorem cA_bought {Z : Nat → Nat} {S : Nat → Option ow_Sh} {I : ow_I} {V : Nat → Nat → Value} {z : Nat} {x : Nat} {y : Int32} (h_x : au_S S x) (hV : k_V (x + 1) I) (hy : 0 ≤ y ∧ tn y < tn (I (x + 1) 8)) : ow_Cx Z yX10_bought cX10_bought 2 (some .int) 3 0 0 [.ref x, .int y] (S, I, V, z) (ox_s S V z 0 (some (.int (A_bought x y I))) I) := by
  refine ow_Cx.off rfl (Nat.le_of_ble_eq_true rfl) (fun X K E G F hk => ?_)
  have E : ow_E X RX10 cX10_bought 2 (ow_rm 3 0 0) := E
  refine or_lv [(0, .ref x), (1, .int y)] rfl ?_
  try dsimp only [A_bought] at hk
  refine or_aload_n E rfl dX10_bought_0 ?_
  refine or_iload_n E rfl dX10_bought_1 ?_
  refine or_fV1r (cA_buyerAt (Z := Z) h_x hV hy) E G F lk_10_298 dX10_bought_2 h_x.1 rfl rfl (by decide) (by decide) ⟨(Nat.le_of_ble_eq_true rfl), (Nat.le_of_ble_eq_true rfl)⟩ (Nat.le_of_ble_eq_true rfl) (fun _ => ?_) (fun h => absurd h (Nat.lt_irrefl 0))
  refine ot_getI E fl_10_302 dX10_bought_5 (mk_by2 h_x.2.1 (lt06 hV hy)) rfl ?_
  exact or_xr E F (fun X' E' F' => or_iret E' F' dX10_bought_8 (Nat.le_of_ble_eq_true rfl) (Nat.le_of_ble_eq_true rfl) (hk.1 rfl))
def A_nods (x : Nat) (y : Int32) (I : ow_I) : Int32 :=
  I (x + 1 + 5 + (tn y)) 4
set_option maxRecDepth 100000 in
set_option maxHeartbeats 400000 in
theorem cA_nods {Z : Nat → Nat} {S : Nat → Option ow_Sh} {I : ow_I} {V : Nat → Nat → Value} {z : Nat} {x : Nat} {y : Int32} (h_x : au_S S x) (hV : k_V (x + 1) I) (hy : 0 ≤ y ∧ tn y < tn (I (x + 1) 8)) : ow_Cx Z yX10_nods cX10_nods 2 (some .int) 3 0 0 [.ref x, .int y] (S, I, V, z) (ox_s S V z 0 (some (.int (A_nods x y I))) I) := by
  refine ow_Cx.off rfl (Nat.le_of_ble_eq_true rfl) (fun X K E G F hk => ?_)
  have E : ow_E X RX10 cX10_nods 2 (ow_rm 3 0 0) := E
  refine or_lv [(0, .ref x), (1, .int y)] rfl ?_
  try dsimp only [A_nods] at hk
  refine or_aload_n E rfl dX10_nods_0 ?_
  refine or_iload_n E rfl dX10_nods_1 ?_
  refine or_fV1r (cA_buyerAt (Z := Z) h_x hV hy) E G F lk_10_298 dX10_nods_2 h_x.1 rfl rfl (by decide) (by decide) ⟨(Nat.le_of_ble_eq_true rfl), (Nat.le_of_ble_eq_true rfl)⟩ (Nat.le_of_ble_eq_true rfl) (fun _ => ?_) (fun h => absurd h (Nat.lt_irrefl 0))
  refine ot_getI E fl_10_305 dX10_nods_5 (mk_by2 h_x.2.1 (lt06 hV hy)) rfl ?_
  exact or_xr E F (fun X' E' F' => or_iret E' F' dX10_nods_8 (Nat.le_of_ble_eq_true rfl) (Nat.le_of_ble_eq_true rfl) (hk.1 rfl))
