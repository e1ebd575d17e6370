/-- what the acts keep (proved of the pure functions later) -/
def qAdd (x : Nat) (I : ow_I) : Prop := ∀ r e l : Nat, 1 ≤ r → r ≤ 90 → 1 ≤ e → e ≤ 9 → 10 ≤ l → l ≤ 150 → ¬ tn (A_barrelCount x I) = 20 → K_hasRoom (x + 1) I = true ∧ au_V x (A_addBarrel x (nI r) (nI e) (nI l) I).2 ∧ 0 ≤ nI (tn (A_barrelCount x I)) ∧ tn (nI (tn (A_barrelCount x I))) < tn ((A_addBarrel x (nI r) (nI e) (nI l) I).2 (x + 1) 10)
def qNod (x : Nat) (I : ow_I) : Prop := ∀ y : Int32, (0 ≤ y ∧ tn y < tn (I (x + 1) 8)) → au_V x (L_nod x y I).2 ∧ (L_nod x y I).2 (x + 1) 8 = I (x + 1) 8
def qCut (x : Nat) (I : ow_I) : Prop := ∀ b n : Int32, (0 ≤ b ∧ tn b < tn (I (x + 1) 10)) → (nI 1 ≤ n ∧ n ≤ nI 8) → cutQ x b n I
def qWdr (x : Nat) (I : ow_I) : Prop := ∀ b : Int32, (0 ≤ b ∧ tn b < tn (I (x + 1) 10)) → au_V x (L_withdraw x b I).2 ∧ (L_withdraw x b I).2 (x + 1) 10 = I (x + 1) 10
def qFun (x : Nat) (I : ow_I) : Prop := ∀ (y : Int32) (c : Nat), (0 ≤ y ∧ tn y < tn (I (x + 1) 8)) → 1 ≤ c → c ≤ 300 → au_V x (A_fund x y (nI c) I).2
def qStp (x : Nat) (I : ow_I) : Prop := ∀ s : Nat, 1 ≤ s → s ≤ 50 → au_V x (A_setStep x (nI s) I).2 ∧ (A_setStep x (nI s) I).2 (x + 1) 8 = I (x + 1) 8
def qMin (x m : Nat) : Prop := ∀ (B : Nat) (I : ow_I), LI B x m I → B < 100000 → LI (B + 1) x m (A_passMinutes x (nI 1) I).2 ∧ (A_passMinutes x (nI 1) I).2 (x + 1) 10 = I (x + 1) 10 ∧ (A_passMinutes x (nI 1) I).2 (x + 1) 8 = I (x + 1) 8 ∧ ((L_minute x m I).1 = true → (L_minute x m I).2 = (A_passMinutes x (nI 1) I).2)
def qAct (x m : Nat) (I : ow_I) : Prop := qAdd x I ∧ qNod x I ∧ qCut x I ∧ qWdr x I ∧ qFun x I ∧ qStp x I ∧ qMin x m
theorem pw {w : Nat → Nat → Nat} {Z : Nat → Nat} (hw : w = pkf Z) (k : Nat) {n : Nat} (h : 0 < n) : w k n < n := by
  subst hw
  exact pkf_lt Z k h
theorem nI_rg {a b : Nat} (h : a ≤ b) (hb : b < 2 ^ 31) : nI a ≤ nI b := by
  rcases Nat.lt_or_eq_of_le h with h | h
  · exact Int32.le_of_lt (nI_lt h hb)
  · subst h; exact Int32.le_refl _
theorem r1p {a v n : Nat} (h : v < n) (ha : 1 ≤ a) (hb : a + v < 2 ^ 31) : nI 1 ≤ nI (a + v) := nI_rg (by omega) hb
theorem vy_w {v : Nat} {n : Int32} (h : v < tn n) (hn : tn n ≤ 20) : 0 ≤ nI v ∧ tn (nI v) < tn n := by
  rw [tn_nI (by omega)]
  exact ⟨nI_ge0 (by omega), h⟩
theorem vy_2 {y c d : Int32} (e : d = c) (h : 0 ≤ y ∧ tn y < tn c) : 0 ≤ y ∧ tn y < tn d := by
  rw [e]; exact h
theorem b19v {c : Int32} {b : Int32} {v : Nat} (hb : b = if tn c = 0 then -1 else nI v) (hv : 0 < tn c → v < tn c) (hc : tn c ≤ 20) (h : ¬ b < 0) : 0 ≤ b ∧ tn b < tn c := by
  subst hb
  by_cases e : tn c = 0
  · rw [if_pos e] at h
    exact absurd (by decide) h
  · rw [if_neg e] at h ⊢
    exact vy_w (hv (by omega)) hc
def cnt (i : Int32) : Nat := if i < 0 then 0 else tn i + 1
theorem cnt_n {v : Nat} (h : v < 1000) : cnt (nI v) = v + 1 := by
  unfold cnt
  rw [if_neg (Int32.not_lt.mpr (nI_ge0 (by omega))), tn_nI (by omega)]
theorem cnt_d {i : Int32} (h : ¬ i < 0) : cnt (i + Int32.ofInt (-1)) + 1 = cnt i := by
  have h0 := Int32.not_lt.mp h
  have e : i = nI (tn i) := (nI_tn h0).symm
  have hl := tn_lt i
  generalize tn i = k at e hl
  subst e
  cases k with
  | zero => decide
  | succ j =>
    have e2 : nI (j + 1) + Int32.ofInt (-1) = nI j := by
      rw [show Int32.ofInt (-1) = -1 from rfl, ← nI_add]
      show nI j + 1 + -1 = nI j
      rw [Int32.add_assoc, show (1 : Int32) + -1 = 0 from rfl, Int32.add_zero]
    rw [e2]
    unfold cnt
    rw [if_neg (Int32.not_lt.mpr (nI_ge0 (by omega))), if_neg (Int32.not_lt.mpr (nI_ge0 hl)), tn_nI (by omega), tn_nI hl]
theorem mstp {x m B : Nat} {I : ow_I} {i : Int32} (hq : qMin x m) (hI : LI B x m I) (hB : B + cnt i ≤ 100000) (h : ¬ i < 0) (hr : (L_minute x m I).1 = true) : ∃ B' : Nat, LI B' x m (L_minute x m I).2 ∧ B' + cnt (i + Int32.ofInt (-1)) ≤ 100000 := by
  have hc := cnt_d h
  obtain ⟨h1, -, -, h4⟩ := hq B I hI (by omega)
  rw [h4 hr]
  exact ⟨B + 1, h1, by omega⟩

set_option maxRecDepth 100000
theorem lk_120_27 : ow_lt RX120 27 yL_pick cL_pick 3 (some .int) 3 := ⟨ow_T_in 571 (by decide +kernel) (by decide +kernel), ow_T_in 572 (by decide +kernel) (by decide +kernel), ow_T_in 0 (by decide +kernel) (by decide +kernel), ow_T_in 573 (by decide +kernel) (by decide +kernel), ⟨by decide +kernel, by decide +kernel, by decide +kernel⟩⟩
theorem lk_120_186 : ow_lv RX120 186 yX10_addBarrel cX10_addBarrel 4 (some .int) 3 := ⟨ow_T_in 922 (by decide +kernel) (by decide +kernel), ow_T_in 923 (by decide +kernel) (by decide +kernel), ow_T_in 924 (by decide +kernel) (by decide +kernel), ow_T_in 1 (by decide +kernel) (by decide +kernel), ow_T_in 925 (by decide +kernel) (by decide +kernel), ⟨by decide +kernel, by decide +kernel, by decide +kernel⟩⟩
theorem lk_120_190 : ow_lv RX120 190 yX10_middleLength cX10_middleLength 2 (some .int) 1 := ⟨ow_T_in 971 (by decide +kernel) (by decide +kernel), ow_T_in 972 (by decide +kernel) (by decide +kernel), ow_T_in 973 (by decide +kernel) (by decide +kernel), ow_T_in 1 (by decide +kernel) (by decide +kernel), ow_T_in 974 (by decide +kernel) (by decide +kernel), ⟨by decide +kernel, by decide +kernel, by decide +kernel⟩⟩
theorem lk_120_193 : ow_lv RX120 193 yX10_nods cX10_nods 2 (some .int) 1 := ⟨ow_T_in 1033 (by decide +kernel) (by decide +kernel), ow_T_in 1034 (by decide +kernel) (by decide +kernel), ow_T_in 1035 (by decide +kernel) (by decide +kernel), ow_T_in 1 (by decide +kernel) (by decide +kernel), ow_T_in 1036 (by decide +kernel) (by decide +kernel), ⟨by decide +kernel, by decide +kernel, by decide +kernel⟩⟩
theorem lk_120_196 : ow_lv RX120 196 yX10_whyNotNod cX10_whyNotNod 2 (some .int) 1 := ⟨ow_T_in 1037 (by decide +kernel) (by decide +kernel), ow_T_in 1038 (by decide +kernel) (by decide +kernel), ow_T_in 1039 (by decide +kernel) (by decide +kernel), ow_T_in 1 (by decide +kernel) (by decide +kernel), ow_T_in 1040 (by decide +kernel) (by decide +kernel), ⟨by decide +kernel, by decide +kernel, by decide +kernel⟩⟩
theorem lk_120_202 : ow_lt RX120 202 yL_cut cL_cut 10 (some .boolean) 3 := ⟨ow_T_in 1068 (by decide +kernel) (by decide +kernel), ow_T_in 1069 (by decide +kernel) (by decide +kernel), ow_T_in 0 (by decide +kernel) (by decide +kernel), ow_T_in 1070 (by decide +kernel) (by decide +kernel), ⟨by decide +kernel, by decide +kernel, by decide +kernel⟩⟩
theorem lk_120_208 : ow_lv RX120 208 yX10_fund cX10_fund 3 (some .int) 2 := ⟨ow_T_in 1124 (by decide +kernel) (by decide +kernel), ow_T_in 1125 (by decide +kernel) (by decide +kernel), ow_T_in 1126 (by decide +kernel) (by decide +kernel), ow_T_in 1 (by decide +kernel) (by decide +kernel), ow_T_in 1127 (by decide +kernel) (by decide +kernel), ⟨by decide +kernel, by decide +kernel, by decide +kernel⟩⟩
theorem lk_120_211 : ow_lv RX120 211 yX10_coinError cX10_coinError 1 (some .int) 0 := ⟨ow_T_in 563 (by decide +kernel) (by decide +kernel), ow_T_in 564 (by decide +kernel) (by decide +kernel), ow_T_in 565 (by decide +kernel) (by decide +kernel), ow_T_in 1 (by decide +kernel) (by decide +kernel), ow_T_in 566 (by decide +kernel) (by decide +kernel), ⟨by decide +kernel, by decide +kernel, by decide +kernel⟩⟩
theorem lk_120_214 : ow_lv RX120 214 yX10_setStep cX10_setStep 3 (some .int) 1 := ⟨ow_T_in 1138 (by decide +kernel) (by decide +kernel), ow_T_in 1139 (by decide +kernel) (by decide +kernel), ow_T_in 1140 (by decide +kernel) (by decide +kernel), ow_T_in 1 (by decide +kernel) (by decide +kernel), ow_T_in 1141 (by decide +kernel) (by decide +kernel), ⟨by decide +kernel, by decide +kernel, by decide +kernel⟩⟩
theorem lk_120_217 : ow_lv RX120 217 yX10_setTaste cX10_setTaste 6 (some .int) 3 := ⟨ow_T_in 1142 (by decide +kernel) (by decide +kernel), ow_T_in 1143 (by decide +kernel) (by decide +kernel), ow_T_in 1144 (by decide +kernel) (by decide +kernel), ow_T_in 1 (by decide +kernel) (by decide +kernel), ow_T_in 1145 (by decide +kernel) (by decide +kernel), ⟨by decide +kernel, by decide +kernel, by decide +kernel⟩⟩
theorem lk_120_220 : ow_lt RX120 220 yL_minute cL_minute 19 (some .boolean) 2 := ⟨ow_T_in 1146 (by decide +kernel) (by decide +kernel), ow_T_in 1147 (by decide +kernel) (by decide +kernel), ow_T_in 0 (by decide +kernel) (by decide +kernel), ow_T_in 1148 (by rfl) (by decide +kernel), ⟨by decide +kernel, by decide +kernel, by decide +kernel⟩⟩
theorem lk_120_223 : ow_lv RX120 223 yX10_nextNodder cX10_nextNodder 1 (some .int) 0 := ⟨ow_T_in 1237 (by decide +kernel) (by decide +kernel), ow_T_in 1238 (by decide +kernel) (by decide +kernel), ow_T_in 1239 (by decide +kernel) (by decide +kernel), ow_T_in 1 (by decide +kernel) (by decide +kernel), ow_T_in 1240 (by decide +kernel) (by decide +kernel), ⟨by decide +kernel, by decide +kernel, by decide +kernel⟩⟩
theorem lk_120_226 : ow_lt RX120 226 yL_nodder cL_nodder 5 (some .int) 2 := ⟨ow_T_in 1242 (by decide +kernel) (by decide +kernel), ow_T_in 1243 (by decide +kernel) (by decide +kernel), ow_T_in 0 (by decide +kernel) (by decide +kernel), ow_T_in 1244 (by decide +kernel) (by decide +kernel), ⟨by decide +kernel, by decide +kernel, by decide +kernel⟩⟩
theorem lh_120_199 : ow_lh RX120 199 yL_nod cL_nod 3 (some .int) [(0, 5, 6, 169)] 2 := ⟨ow_T_in 1052 (by decide +kernel) (by decide +kernel), ow_T_in 1053 (by decide +kernel) (by decide +kernel), ow_T_in 0 (by decide +kernel) (by decide +kernel), ow_T_in 1054 (by decide +kernel) (by decide +kernel), ⟨by decide +kernel, by decide +kernel, by decide +kernel⟩⟩
theorem lh_120_206 : ow_lh RX120 206 yL_withdraw cL_withdraw 3 (some .int) [(0, 5, 6, 169)] 2 := ⟨ow_T_in 1108 (by decide +kernel) (by decide +kernel), ow_T_in 1109 (by decide +kernel) (by decide +kernel), ow_T_in 0 (by decide +kernel) (by decide +kernel), ow_T_in 1110 (by decide +kernel) (by decide +kernel), ⟨by decide +kernel, by decide +kernel, by decide +kernel⟩⟩
