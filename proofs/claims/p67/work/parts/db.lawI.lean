def fo1 (x : Nat) (b : Int32) (I : ow_I) : ow_I := (A_minutesToSale x b I).2
def fo2 (x : Nat) (b : Int32) (I : ow_I) : ow_I := (A_buyerAfter x b (nI 40) (fo1 x b I)).2
def fo3 (x : Nat) (b : Int32) (I : ow_I) : ow_I := (A_sellerCoinsAfter x (nI 40) (fo2 x b I)).2
def qFor (B x m : Nat) (b : Int32) (I : ow_I) : Prop := (LI B x m (fo1 x b I) ∧ fo1 x b I (x + 1) 10 = I (x + 1) 10) ∧ (LI B x m (fo2 x b I) ∧ fo2 x b I (x + 1) 10 = I (x + 1) 10) ∧ LI B x m (fo3 x b I) ∧ fo3 x b I (x + 1) 10 = I (x + 1) 10
theorem fmn {x m B : Nat} {I : ow_I} (hq : qMin x m) (hI : LI B x m I) (hB : B < 100000) (hr : (L_minute x m I).1 = true) : LI (B + 1) x m (L_minute x m I).2 ∧ (L_minute x m I).2 (x + 1) 10 = I (x + 1) 10 := by
  obtain ⟨h1, h2, -, h4⟩ := hq B I hI hB
  rw [h4 hr]
  exact ⟨h1, h2⟩

set_option maxRecDepth 100000
theorem lk_120_254 : ow_lv RX120 254 yX10_minutesToSale cX10_minutesToSale 4 (some .int) 1 := ⟨ow_T_in 1284 (by decide +kernel) (by decide +kernel), ow_T_in 1285 (by decide +kernel) (by decide +kernel), ow_T_in 1286 (by decide +kernel) (by decide +kernel), ow_T_in 1 (by decide +kernel) (by decide +kernel), ow_T_in 1287 (by decide +kernel) (by decide +kernel), ⟨by decide +kernel, by decide +kernel, by decide +kernel⟩⟩
theorem lk_120_257 : ow_lv RX120 257 yX10_buyerAfter cX10_buyerAfter 3 (some .int) 2 := ⟨ow_T_in 1288 (by decide +kernel) (by decide +kernel), ow_T_in 1289 (by decide +kernel) (by decide +kernel), ow_T_in 1290 (by decide +kernel) (by decide +kernel), ow_T_in 1 (by decide +kernel) (by decide +kernel), ow_T_in 1291 (by decide +kernel) (by decide +kernel), ⟨by decide +kernel, by decide +kernel, by decide +kernel⟩⟩
theorem lk_120_260 : ow_lv RX120 260 yX10_sellerCoinsAfter cX10_sellerCoinsAfter 2 (some .int) 1 := ⟨ow_T_in 1296 (by decide +kernel) (by decide +kernel), ow_T_in 1297 (by decide +kernel) (by decide +kernel), ow_T_in 1298 (by decide +kernel) (by decide +kernel), ow_T_in 1 (by decide +kernel) (by decide +kernel), ow_T_in 1299 (by decide +kernel) (by decide +kernel), ⟨by decide +kernel, by decide +kernel, by decide +kernel⟩⟩
