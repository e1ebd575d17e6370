/-! THE LAW'S WRAPPERS: they catch what the class throws, and tell which it was (laid by wip/whole/mach/lawgen.py) -/
def ol_l : Nat → Option (Option Value) := fun _ => some none
/-- a wrapper's end: the answer in out[0], or the place of what was caught -/
def wK (Kc : Nat → Option Value → ow_H → Prop) (f : ow_H → Option Value → ow_H → Prop) (l : List Nat) : Option Value → ow_H → Prop := fun r h1 => (∃ (a : Option Value) (h0 : ow_H), Kc 0 a h0 ∧ r = some (.int (nI 0)) ∧ f h0 a h1) ∨ (∃ c, 0 < c ∧ Kc c none h1 ∧ r = some (.int (nI (kx l c))))
def wI (o : Nat) : ow_H → Option Value → ow_H → Prop := fun h0 a h1 => ∃ i : Int32, a = some (.int i) ∧ h1 = ow_pV h0 o 0 (.long i.toInt64)
def wF (o : Nat) : ow_H → Option Value → ow_H → Prop := fun h0 a h1 => ∃ i : UInt32, a = some (.float i) ∧ h1 = ow_pV h0 o 0 (.double (FP.f2d i))
def wD (o : Nat) : ow_H → Option Value → ow_H → Prop := fun h0 a h1 => ∃ i : UInt64, a = some (.double i) ∧ h1 = ow_pV h0 o 0 (.double i)
def wN : ow_H → Option Value → ow_H → Prop := fun h0 a h1 => h1 = h0
theorem lk_L_7 : ow_lv RL 7 yX10_append cX10_append 7 (some .int) 5 := ⟨ow_T_in 1063 (by decide +kernel) (by decide +kernel), ow_T_in 1064 (by decide +kernel) (by decide +kernel), ow_T_in 1065 (by decide +kernel) (by decide +kernel), ow_T_in 1 (by decide +kernel) (by decide +kernel), ow_T_in 1066 (by decide +kernel) (by decide +kernel), ⟨by decide +kernel, by decide +kernel, by decide +kernel⟩⟩
theorem cl_L_13 : Cond.classLink RL 13 "java/lang/IllegalStateException" ∈ ow_T := ow_T_in 1062 (by decide +kernel) (by decide +kernel)
set_option maxRecDepth 100000 in
set_option maxHeartbeats 400000 in
theorem wL_append {Z : Nat → Nat} {h : ow_H} {x o k mc ms : Nat} {p0 : Int32} {p1 : Int32} {p2 : Int32} {p3 : Int32} {p4 : Int32} {Kc : Nat → Option Value → ow_H → Prop} (hC : ow_Cx Z yX10_append cX10_append 7 (some .int) k mc ms [.ref x, .int p0, .int p1, .int p2, .int p3, .int p4] h Kc) (hx : h.1 x = some (.inl (10, au_k x))) (hr : ∀ r h0, Kc 0 r h0 → ∃ a : Int32, r = some (.int a) ∧ h0.1 o = some (.inr (.long, 1, ol_l))) (hl : ∀ c' h1, 0 < c' → Kc c' none h1 → c' = 2) : ow_Ch Z yL_append cL_append 8 (some .int) [(0, 16, 19, 13)] (k + 1) mc ms [.ref x, .int p0, .int p1, .int p2, .int p3, .int p4, .ref o] h (wK Kc (wI o) [2]) := by
  refine ow_Ch.of rfl (Nat.le_of_ble_eq_true rfl) (fun X E G T9 F => ?_)
  have E : ow_E X RL cL_append 8 (ow_rm (k + 1) mc ms) := E
  refine or_lv [(0, .ref x), (1, .int p0), (2, .int p1), (3, .int p2), (4, .int p3), (5, .int p4), (6, .ref o)] rfl ?_
  refine or_aload E rfl dL_append_0 ?_
  refine or_iconst (v := nI 0) E rfl dL_append_2 ?_
  refine or_aload_n E rfl dL_append_3 ?_
  refine or_iload_n E rfl dL_append_4 ?_
  refine or_iload_n E rfl dL_append_5 ?_
  refine or_iload_n E rfl dL_append_6 ?_
  refine or_iload E rfl dL_append_7 ?_
  refine or_iload E rfl dL_append_9 ?_
  refine or_xVH (st := [.int (nI 0), .ref o]) [.int p0, .int p1, .int p2, .int p3, .int p4] hC E G T9 lk_L_7 dL_append_11 hx rfl rfl rfl (Nat.le_refl _) (by decide) ⟨Nat.le_of_eq (Nat.zero_add _), Nat.le_of_eq (Nat.zero_add _)⟩ (Nat.le_of_ble_eq_true rfl) (fun r h1 hk => ?_) (fun c' h1 hc hk => ?_)
  · obtain ⟨a, rfl, ho⟩ := hr _ _ hk
    refine or_i2l E dL_append_14 ?_
    refine or_last E dL_append_15 ho rfl rfl (by decide) (by decide) ?_
    refine or_goto 23 E dL_append_16 rfl ?_
    refine or_iconst (v := nI 0) E rfl dL_append_23 ?_
    exact or_iret E F dL_append_24 (Nat.le_of_eq (Nat.zero_add _)) (Nat.le_of_eq (Nat.zero_add _)) (Or.inl ⟨some (.int a), h1, hk, rfl, ⟨a, rfl, rfl⟩⟩)
  · have e := hl _ _ hc hk
    subst e
    refine ⟨[], ⟨0, 16, 19, 13⟩, [], rfl, (fun z hz => by cases hz), by decide, by decide, cl_L_13, List.mem_of_getElem? (i := 1) rfl, fun q => ?_⟩
    refine or_astore E dL_append_19 (by decide) ?_
    refine or_iconst (v := nI 1) E rfl dL_append_21 ?_
    exact or_iret E F dL_append_22 (Nat.le_of_eq (Nat.zero_add _)) (Nat.le_of_eq (Nat.zero_add _)) (Or.inr ⟨2, hc, hk, rfl⟩)
theorem lk_L_15 : ow_lv RL 15 yX10_truncate cX10_truncate 2 (some .int) 1 := ⟨ow_T_in 1091 (by decide +kernel) (by decide +kernel), ow_T_in 1092 (by decide +kernel) (by decide +kernel), ow_T_in 1093 (by decide +kernel) (by decide +kernel), ow_T_in 1 (by decide +kernel) (by decide +kernel), ow_T_in 1094 (by decide +kernel) (by decide +kernel), ⟨by decide +kernel, by decide +kernel, by decide +kernel⟩⟩
theorem cl_L_19 : Cond.classLink RL 19 "java/lang/IllegalArgumentException" ∈ ow_T := ow_T_in 1090 (by decide +kernel) (by decide +kernel)
set_option maxRecDepth 100000 in
set_option maxHeartbeats 400000 in
theorem wL_truncate {Z : Nat → Nat} {h : ow_H} {x o k mc ms : Nat} {p0 : Int32} {Kc : Nat → Option Value → ow_H → Prop} (hC : ow_Cx Z yX10_truncate cX10_truncate 2 (some .int) k mc ms [.ref x, .int p0] h Kc) (hx : h.1 x = some (.inl (10, au_k x))) (hr : ∀ r h0, Kc 0 r h0 → ∃ a : Int32, r = some (.int a) ∧ h0.1 o = some (.inr (.long, 1, ol_l))) (hl : ∀ c' h1, 0 < c' → Kc c' none h1 → c' = 1) : ow_Ch Z yL_truncate cL_truncate 4 (some .int) [(0, 9, 12, 19)] (k + 1) mc ms [.ref x, .int p0, .ref o] h (wK Kc (wI o) [1]) := by
  refine ow_Ch.of rfl (Nat.le_of_ble_eq_true rfl) (fun X E G T9 F => ?_)
  have E : ow_E X RL cL_truncate 4 (ow_rm (k + 1) mc ms) := E
  refine or_lv [(0, .ref x), (1, .int p0), (2, .ref o)] rfl ?_
  refine or_aload_n E rfl dL_truncate_0 ?_
  refine or_iconst (v := nI 0) E rfl dL_truncate_1 ?_
  refine or_aload_n E rfl dL_truncate_2 ?_
  refine or_iload_n E rfl dL_truncate_3 ?_
  refine or_xVH (st := [.int (nI 0), .ref o]) [.int p0] hC E G T9 lk_L_15 dL_truncate_4 hx rfl rfl rfl (Nat.le_refl _) (by decide) ⟨Nat.le_of_eq (Nat.zero_add _), Nat.le_of_eq (Nat.zero_add _)⟩ (Nat.le_of_ble_eq_true rfl) (fun r h1 hk => ?_) (fun c' h1 hc hk => ?_)
  · obtain ⟨a, rfl, ho⟩ := hr _ _ hk
    refine or_i2l E dL_truncate_7 ?_
    refine or_last E dL_truncate_8 ho rfl rfl (by decide) (by decide) ?_
    refine or_goto 15 E dL_truncate_9 rfl ?_
    refine or_iconst (v := nI 0) E rfl dL_truncate_15 ?_
    exact or_iret E F dL_truncate_16 (Nat.le_of_eq (Nat.zero_add _)) (Nat.le_of_eq (Nat.zero_add _)) (Or.inl ⟨some (.int a), h1, hk, rfl, ⟨a, rfl, rfl⟩⟩)
  · have e := hl _ _ hc hk
    subst e
    refine ⟨[], ⟨0, 9, 12, 19⟩, [], rfl, (fun z hz => by cases hz), by decide, by decide, cl_L_19, List.mem_of_getElem? (i := 0) rfl, fun q => ?_⟩
    refine or_astore_n E dL_truncate_12 (by decide) ?_
    refine or_iconst (v := nI 1) E rfl dL_truncate_13 ?_
    exact or_iret E F dL_truncate_14 (Nat.le_of_eq (Nat.zero_add _)) (Nat.le_of_eq (Nat.zero_add _)) (Or.inr ⟨1, hc, hk, rfl⟩)
theorem lk_L_21 : ow_lv RL 21 yX10_loadSetup cX10_loadSetup 2 (some .int) 0 := ⟨ow_T_in 1104 (by decide +kernel) (by decide +kernel), ow_T_in 1105 (by decide +kernel) (by decide +kernel), ow_T_in 1106 (by decide +kernel) (by decide +kernel), ow_T_in 1 (by decide +kernel) (by decide +kernel), ow_T_in 1107 (by decide +kernel) (by decide +kernel), ⟨by decide +kernel, by decide +kernel, by decide +kernel⟩⟩
set_option maxRecDepth 100000 in
set_option maxHeartbeats 400000 in
theorem wL_loadSetup {Z : Nat → Nat} {h : ow_H} {x o k mc ms : Nat} {Kc : Nat → Option Value → ow_H → Prop} (hC : ow_Cx Z yX10_loadSetup cX10_loadSetup 2 (some .int) k mc ms [.ref x] h Kc) (hx : h.1 x = some (.inl (10, au_k x))) (hr : ∀ r h0, Kc 0 r h0 → ∃ a : Int32, r = some (.int a) ∧ h0.1 o = some (.inr (.long, 1, ol_l))) (hl : ∀ c' h1, 0 < c' → Kc c' none h1 → c' = 1) : ow_Ch Z yL_loadSetup cL_loadSetup 3 (some .int) [(0, 8, 11, 19)] (k + 1) mc ms [.ref x, .ref o] h (wK Kc (wI o) [1]) := by
  refine ow_Ch.of rfl (Nat.le_of_ble_eq_true rfl) (fun X E G T9 F => ?_)
  have E : ow_E X RL cL_loadSetup 3 (ow_rm (k + 1) mc ms) := E
  refine or_lv [(0, .ref x), (1, .ref o)] rfl ?_
  refine or_aload_n E rfl dL_loadSetup_0 ?_
  refine or_iconst (v := nI 0) E rfl dL_loadSetup_1 ?_
  refine or_aload_n E rfl dL_loadSetup_2 ?_
  refine or_xVH (st := [.int (nI 0), .ref o]) [] hC E G T9 lk_L_21 dL_loadSetup_3 hx rfl rfl rfl (Nat.le_refl _) (by decide) ⟨Nat.le_of_eq (Nat.zero_add _), Nat.le_of_eq (Nat.zero_add _)⟩ (Nat.le_of_ble_eq_true rfl) (fun r h1 hk => ?_) (fun c' h1 hc hk => ?_)
  · obtain ⟨a, rfl, ho⟩ := hr _ _ hk
    refine or_i2l E dL_loadSetup_6 ?_
    refine or_last E dL_loadSetup_7 ho rfl rfl (by decide) (by decide) ?_
    refine or_goto 14 E dL_loadSetup_8 rfl ?_
    refine or_iconst (v := nI 0) E rfl dL_loadSetup_14 ?_
    exact or_iret E F dL_loadSetup_15 (Nat.le_of_eq (Nat.zero_add _)) (Nat.le_of_eq (Nat.zero_add _)) (Or.inl ⟨some (.int a), h1, hk, rfl, ⟨a, rfl, rfl⟩⟩)
  · have e := hl _ _ hc hk
    subst e
    refine ⟨[], ⟨0, 8, 11, 19⟩, [], rfl, (fun z hz => by cases hz), by decide, by decide, cl_L_19, List.mem_of_getElem? (i := 0) rfl, fun q => ?_⟩
    refine or_astore_n E dL_loadSetup_11 (by decide) ?_
    refine or_iconst (v := nI 1) E rfl dL_loadSetup_12 ?_
    exact or_iret E F dL_loadSetup_13 (Nat.le_of_eq (Nat.zero_add _)) (Nat.le_of_eq (Nat.zero_add _)) (Or.inr ⟨1, hc, hk, rfl⟩)
theorem lk_L_25 : ow_lv RL 25 yX10_runScript cX10_runScript 3 (some .int) 0 := ⟨ow_T_in 1136 (by decide +kernel) (by decide +kernel), ow_T_in 1137 (by decide +kernel) (by decide +kernel), ow_T_in 1138 (by decide +kernel) (by decide +kernel), ow_T_in 1 (by decide +kernel) (by decide +kernel), ow_T_in 1139 (by decide +kernel) (by decide +kernel), ⟨by decide +kernel, by decide +kernel, by decide +kernel⟩⟩
set_option maxRecDepth 100000 in
set_option maxHeartbeats 400000 in
theorem wL_runScript {Z : Nat → Nat} {h : ow_H} {x o k mc ms : Nat} {Kc : Nat → Option Value → ow_H → Prop} (hC : ow_Cx Z yX10_runScript cX10_runScript 3 (some .int) k mc ms [.ref x] h Kc) (hx : h.1 x = some (.inl (10, au_k x))) (hr : ∀ r h0, Kc 0 r h0 → ∃ a : Int32, r = some (.int a) ∧ h0.1 o = some (.inr (.long, 1, ol_l))) (hl : ∀ c' h1, 0 < c' → Kc c' none h1 → c' = 1) : ow_Ch Z yL_runScript cL_runScript 3 (some .int) [(0, 8, 11, 19)] (k + 1) mc ms [.ref x, .ref o] h (wK Kc (wI o) [1]) := by
  refine ow_Ch.of rfl (Nat.le_of_ble_eq_true rfl) (fun X E G T9 F => ?_)
  have E : ow_E X RL cL_runScript 3 (ow_rm (k + 1) mc ms) := E
  refine or_lv [(0, .ref x), (1, .ref o)] rfl ?_
  refine or_aload_n E rfl dL_runScript_0 ?_
  refine or_iconst (v := nI 0) E rfl dL_runScript_1 ?_
  refine or_aload_n E rfl dL_runScript_2 ?_
  refine or_xVH (st := [.int (nI 0), .ref o]) [] hC E G T9 lk_L_25 dL_runScript_3 hx rfl rfl rfl (Nat.le_refl _) (by decide) ⟨Nat.le_of_eq (Nat.zero_add _), Nat.le_of_eq (Nat.zero_add _)⟩ (Nat.le_of_ble_eq_true rfl) (fun r h1 hk => ?_) (fun c' h1 hc hk => ?_)
  · obtain ⟨a, rfl, ho⟩ := hr _ _ hk
    refine or_i2l E dL_runScript_6 ?_
    refine or_last E dL_runScript_7 ho rfl rfl (by decide) (by decide) ?_
    refine or_goto 14 E dL_runScript_8 rfl ?_
    refine or_iconst (v := nI 0) E rfl dL_runScript_14 ?_
    exact or_iret E F dL_runScript_15 (Nat.le_of_eq (Nat.zero_add _)) (Nat.le_of_eq (Nat.zero_add _)) (Or.inl ⟨some (.int a), h1, hk, rfl, ⟨a, rfl, rfl⟩⟩)
  · have e := hl _ _ hc hk
    subst e
    refine ⟨[], ⟨0, 8, 11, 19⟩, [], rfl, (fun z hz => by cases hz), by decide, by decide, cl_L_19, List.mem_of_getElem? (i := 0) rfl, fun q => ?_⟩
    refine or_astore_n E dL_runScript_11 (by decide) ?_
    refine or_iconst (v := nI 1) E rfl dL_runScript_12 ?_
    exact or_iret E F dL_runScript_13 (Nat.le_of_eq (Nat.zero_add _)) (Nat.le_of_eq (Nat.zero_add _)) (Or.inr ⟨1, hc, hk, rfl⟩)
theorem lk_L_28 : ow_lv RL 28 yX10_nod cX10_nod 2 (some .int) 1 := ⟨ow_T_in 1255 (by decide +kernel) (by decide +kernel), ow_T_in 1256 (by decide +kernel) (by decide +kernel), ow_T_in 1257 (by decide +kernel) (by decide +kernel), ow_T_in 1 (by decide +kernel) (by decide +kernel), ow_T_in 1258 (by decide +kernel) (by decide +kernel), ⟨by decide +kernel, by decide +kernel, by decide +kernel⟩⟩
theorem cl_L_31 : Cond.classLink RL 31 "java/lang/IndexOutOfBoundsException" ∈ ow_T := ow_T_in 1254 (by decide +kernel) (by decide +kernel)
set_option maxRecDepth 100000 in
set_option maxHeartbeats 400000 in
theorem wL_nod {Z : Nat → Nat} {h : ow_H} {x o k mc ms : Nat} {p0 : Int32} {Kc : Nat → Option Value → ow_H → Prop} (hC : ow_Cx Z yX10_nod cX10_nod 2 (some .int) k mc ms [.ref x, .int p0] h Kc) (hx : h.1 x = some (.inl (10, au_k x))) (hr : ∀ r h0, Kc 0 r h0 → ∃ a : Int32, r = some (.int a) ∧ h0.1 o = some (.inr (.long, 1, ol_l))) (hl : ∀ c' h1, 0 < c' → Kc c' none h1 → c' = 3 ∨ c' = 2) : ow_Ch Z yL_nod cL_nod 4 (some .int) [(0, 9, 12, 31), (0, 9, 15, 13)] (k + 1) mc ms [.ref x, .int p0, .ref o] h (wK Kc (wI o) [3, 2]) := by
  refine ow_Ch.of rfl (Nat.le_of_ble_eq_true rfl) (fun X E G T9 F => ?_)
  have E : ow_E X RL cL_nod 4 (ow_rm (k + 1) mc ms) := E
  refine or_lv [(0, .ref x), (1, .int p0), (2, .ref o)] rfl ?_
  refine or_aload_n E rfl dL_nod_0 ?_
  refine or_iconst (v := nI 0) E rfl dL_nod_1 ?_
  refine or_aload_n E rfl dL_nod_2 ?_
  refine or_iload_n E rfl dL_nod_3 ?_
  refine or_xVH (st := [.int (nI 0), .ref o]) [.int p0] hC E G T9 lk_L_28 dL_nod_4 hx rfl rfl rfl (Nat.le_refl _) (by decide) ⟨Nat.le_of_eq (Nat.zero_add _), Nat.le_of_eq (Nat.zero_add _)⟩ (Nat.le_of_ble_eq_true rfl) (fun r h1 hk => ?_) (fun c' h1 hc hk => ?_)
  · obtain ⟨a, rfl, ho⟩ := hr _ _ hk
    refine or_i2l E dL_nod_7 ?_
    refine or_last E dL_nod_8 ho rfl rfl (by decide) (by decide) ?_
    refine or_goto 18 E dL_nod_9 rfl ?_
    refine or_iconst (v := nI 0) E rfl dL_nod_18 ?_
    exact or_iret E F dL_nod_19 (Nat.le_of_eq (Nat.zero_add _)) (Nat.le_of_eq (Nat.zero_add _)) (Or.inl ⟨some (.int a), h1, hk, rfl, ⟨a, rfl, rfl⟩⟩)
  · rcases hl _ _ hc hk with rfl | rfl
    · refine ⟨[], ⟨0, 9, 12, 31⟩, [⟨0, 9, 15, 13⟩], rfl, (fun z hz => by cases hz), by decide, by decide, cl_L_31, List.mem_of_getElem? (i := 2) rfl, fun q => ?_⟩
      refine or_astore_n E dL_nod_12 (by decide) ?_
      refine or_iconst (v := nI 1) E rfl dL_nod_13 ?_
      exact or_iret E F dL_nod_14 (Nat.le_of_eq (Nat.zero_add _)) (Nat.le_of_eq (Nat.zero_add _)) (Or.inr ⟨3, hc, hk, rfl⟩)
    · refine ⟨[⟨0, 9, 12, 31⟩], ⟨0, 9, 15, 13⟩, [], rfl, (fun z hz => by
        cases List.mem_singleton.mp hz
        exact ⟨by decide, _, cl_L_31, List.mem_of_getElem? (i := 0) rfl⟩), by decide, by decide, cl_L_13, List.mem_of_getElem? (i := 1) rfl, fun q => ?_⟩
      refine or_astore_n E dL_nod_15 (by decide) ?_
      refine or_iconst (v := nI 2) E rfl dL_nod_16 ?_
      exact or_iret E F dL_nod_17 (Nat.le_of_eq (Nat.zero_add _)) (Nat.le_of_eq (Nat.zero_add _)) (Or.inr ⟨2, hc, hk, rfl⟩)
theorem lk_L_33 : ow_lv RL 33 yX10_passMinutes cX10_passMinutes 2 (some .int) 1 := ⟨ow_T_in 1286 (by decide +kernel) (by decide +kernel), ow_T_in 1287 (by decide +kernel) (by decide +kernel), ow_T_in 1288 (by decide +kernel) (by decide +kernel), ow_T_in 1 (by decide +kernel) (by decide +kernel), ow_T_in 1289 (by decide +kernel) (by decide +kernel), ⟨by decide +kernel, by decide +kernel, by decide +kernel⟩⟩
set_option maxRecDepth 100000 in
set_option maxHeartbeats 400000 in
theorem wL_passMinutes {Z : Nat → Nat} {h : ow_H} {x o k mc ms : Nat} {p0 : Int32} {Kc : Nat → Option Value → ow_H → Prop} (hC : ow_Cx Z yX10_passMinutes cX10_passMinutes 2 (some .int) k mc ms [.ref x, .int p0] h Kc) (hx : h.1 x = some (.inl (10, au_k x))) (hr : ∀ r h0, Kc 0 r h0 → ∃ a : Int32, r = some (.int a) ∧ h0.1 o = some (.inr (.long, 1, ol_l))) (hl : ∀ c' h1, 0 < c' → Kc c' none h1 → c' = 1) : ow_Ch Z yL_passMinutes cL_passMinutes 4 (some .int) [(0, 9, 12, 19)] (k + 1) mc ms [.ref x, .int p0, .ref o] h (wK Kc (wI o) [1]) := by
  refine ow_Ch.of rfl (Nat.le_of_ble_eq_true rfl) (fun X E G T9 F => ?_)
  have E : ow_E X RL cL_passMinutes 4 (ow_rm (k + 1) mc ms) := E
  refine or_lv [(0, .ref x), (1, .int p0), (2, .ref o)] rfl ?_
  refine or_aload_n E rfl dL_passMinutes_0 ?_
  refine or_iconst (v := nI 0) E rfl dL_passMinutes_1 ?_
  refine or_aload_n E rfl dL_passMinutes_2 ?_
  refine or_iload_n E rfl dL_passMinutes_3 ?_
  refine or_xVH (st := [.int (nI 0), .ref o]) [.int p0] hC E G T9 lk_L_33 dL_passMinutes_4 hx rfl rfl rfl (Nat.le_refl _) (by decide) ⟨Nat.le_of_eq (Nat.zero_add _), Nat.le_of_eq (Nat.zero_add _)⟩ (Nat.le_of_ble_eq_true rfl) (fun r h1 hk => ?_) (fun c' h1 hc hk => ?_)
  · obtain ⟨a, rfl, ho⟩ := hr _ _ hk
    refine or_i2l E dL_passMinutes_7 ?_
    refine or_last E dL_passMinutes_8 ho rfl rfl (by decide) (by decide) ?_
    refine or_goto 15 E dL_passMinutes_9 rfl ?_
    refine or_iconst (v := nI 0) E rfl dL_passMinutes_15 ?_
    exact or_iret E F dL_passMinutes_16 (Nat.le_of_eq (Nat.zero_add _)) (Nat.le_of_eq (Nat.zero_add _)) (Or.inl ⟨some (.int a), h1, hk, rfl, ⟨a, rfl, rfl⟩⟩)
  · have e := hl _ _ hc hk
    subst e
    refine ⟨[], ⟨0, 9, 12, 19⟩, [], rfl, (fun z hz => by cases hz), by decide, by decide, cl_L_19, List.mem_of_getElem? (i := 0) rfl, fun q => ?_⟩
    refine or_astore_n E dL_passMinutes_12 (by decide) ?_
    refine or_iconst (v := nI 1) E rfl dL_passMinutes_13 ?_
    exact or_iret E F dL_passMinutes_14 (Nat.le_of_eq (Nat.zero_add _)) (Nat.le_of_eq (Nat.zero_add _)) (Or.inr ⟨1, hc, hk, rfl⟩)
theorem lk_L_36 : ow_lv RL 36 yX10_addBarrel cX10_addBarrel 4 (some .int) 3 := ⟨ow_T_in 1294 (by decide +kernel) (by decide +kernel), ow_T_in 1295 (by decide +kernel) (by decide +kernel), ow_T_in 1296 (by decide +kernel) (by decide +kernel), ow_T_in 1 (by decide +kernel) (by decide +kernel), ow_T_in 1297 (by decide +kernel) (by decide +kernel), ⟨by decide +kernel, by decide +kernel, by decide +kernel⟩⟩
set_option maxRecDepth 100000 in
set_option maxHeartbeats 400000 in
theorem wL_addBarrel {Z : Nat → Nat} {h : ow_H} {x o k mc ms : Nat} {p0 : Int32} {p1 : Int32} {p2 : Int32} {Kc : Nat → Option Value → ow_H → Prop} (hC : ow_Cx Z yX10_addBarrel cX10_addBarrel 4 (some .int) k mc ms [.ref x, .int p0, .int p1, .int p2] h Kc) (hx : h.1 x = some (.inl (10, au_k x))) (hr : ∀ r h0, Kc 0 r h0 → ∃ a : Int32, r = some (.int a) ∧ h0.1 o = some (.inr (.long, 1, ol_l))) (hl : ∀ c' h1, 0 < c' → Kc c' none h1 → c' = 1 ∨ c' = 2) : ow_Ch Z yL_addBarrel cL_addBarrel 6 (some .int) [(0, 12, 15, 19), (0, 12, 19, 13)] (k + 1) mc ms [.ref x, .int p0, .int p1, .int p2, .ref o] h (wK Kc (wI o) [1, 2]) := by
  refine ow_Ch.of rfl (Nat.le_of_ble_eq_true rfl) (fun X E G T9 F => ?_)
  have E : ow_E X RL cL_addBarrel 6 (ow_rm (k + 1) mc ms) := E
  refine or_lv [(0, .ref x), (1, .int p0), (2, .int p1), (3, .int p2), (4, .ref o)] rfl ?_
  refine or_aload E rfl dL_addBarrel_0 ?_
  refine or_iconst (v := nI 0) E rfl dL_addBarrel_2 ?_
  refine or_aload_n E rfl dL_addBarrel_3 ?_
  refine or_iload_n E rfl dL_addBarrel_4 ?_
  refine or_iload_n E rfl dL_addBarrel_5 ?_
  refine or_iload_n E rfl dL_addBarrel_6 ?_
  refine or_xVH (st := [.int (nI 0), .ref o]) [.int p0, .int p1, .int p2] hC E G T9 lk_L_36 dL_addBarrel_7 hx rfl rfl rfl (Nat.le_refl _) (by decide) ⟨Nat.le_of_eq (Nat.zero_add _), Nat.le_of_eq (Nat.zero_add _)⟩ (Nat.le_of_ble_eq_true rfl) (fun r h1 hk => ?_) (fun c' h1 hc hk => ?_)
  · obtain ⟨a, rfl, ho⟩ := hr _ _ hk
    refine or_i2l E dL_addBarrel_10 ?_
    refine or_last E dL_addBarrel_11 ho rfl rfl (by decide) (by decide) ?_
    refine or_goto 23 E dL_addBarrel_12 rfl ?_
    refine or_iconst (v := nI 0) E rfl dL_addBarrel_23 ?_
    exact or_iret E F dL_addBarrel_24 (Nat.le_of_eq (Nat.zero_add _)) (Nat.le_of_eq (Nat.zero_add _)) (Or.inl ⟨some (.int a), h1, hk, rfl, ⟨a, rfl, rfl⟩⟩)
  · rcases hl _ _ hc hk with rfl | rfl
    · refine ⟨[], ⟨0, 12, 15, 19⟩, [⟨0, 12, 19, 13⟩], rfl, (fun z hz => by cases hz), by decide, by decide, cl_L_19, List.mem_of_getElem? (i := 0) rfl, fun q => ?_⟩
      refine or_astore E dL_addBarrel_15 (by decide) ?_
      refine or_iconst (v := nI 1) E rfl dL_addBarrel_17 ?_
      exact or_iret E F dL_addBarrel_18 (Nat.le_of_eq (Nat.zero_add _)) (Nat.le_of_eq (Nat.zero_add _)) (Or.inr ⟨1, hc, hk, rfl⟩)
    · refine ⟨[⟨0, 12, 15, 19⟩], ⟨0, 12, 19, 13⟩, [], rfl, (fun z hz => by
        cases List.mem_singleton.mp hz
        exact ⟨by decide, _, cl_L_19, List.mem_of_getElem? (i := 1) rfl⟩), by decide, by decide, cl_L_13, List.mem_of_getElem? (i := 1) rfl, fun q => ?_⟩
      refine or_astore E dL_addBarrel_19 (by decide) ?_
      refine or_iconst (v := nI 2) E rfl dL_addBarrel_21 ?_
      exact or_iret E F dL_addBarrel_22 (Nat.le_of_eq (Nat.zero_add _)) (Nat.le_of_eq (Nat.zero_add _)) (Or.inr ⟨2, hc, hk, rfl⟩)
theorem lk_L_40 : ow_lv RL 40 yX10_split cX10_split 3 (some .int) 2 := ⟨ow_T_in 1306 (by decide +kernel) (by decide +kernel), ow_T_in 1307 (by decide +kernel) (by decide +kernel), ow_T_in 1308 (by decide +kernel) (by decide +kernel), ow_T_in 1 (by decide +kernel) (by decide +kernel), ow_T_in 1309 (by decide +kernel) (by decide +kernel), ⟨by decide +kernel, by decide +kernel, by decide +kernel⟩⟩
set_option maxRecDepth 100000 in
set_option maxHeartbeats 400000 in
theorem wL_split {Z : Nat → Nat} {h : ow_H} {x o k mc ms : Nat} {p0 : Int32} {p1 : Int32} {Kc : Nat → Option Value → ow_H → Prop} (hC : ow_Cx Z yX10_split cX10_split 3 (some .int) k mc ms [.ref x, .int p0, .int p1] h Kc) (hx : h.1 x = some (.inl (10, au_k x))) (hr : ∀ r h0, Kc 0 r h0 → ∃ a : Int32, r = some (.int a) ∧ h0.1 o = some (.inr (.long, 1, ol_l))) (hl : ∀ c' h1, 0 < c' → Kc c' none h1 → c' = 3 ∨ c' = 1 ∨ c' = 2) : ow_Ch Z yL_split cL_split 5 (some .int) [(0, 10, 13, 31), (0, 10, 17, 19), (0, 10, 21, 13)] (k + 1) mc ms [.ref x, .int p0, .int p1, .ref o] h (wK Kc (wI o) [3, 1, 2]) := by
  refine ow_Ch.of rfl (Nat.le_of_ble_eq_true rfl) (fun X E G T9 F => ?_)
  have E : ow_E X RL cL_split 5 (ow_rm (k + 1) mc ms) := E
  refine or_lv [(0, .ref x), (1, .int p0), (2, .int p1), (3, .ref o)] rfl ?_
  refine or_aload_n E rfl dL_split_0 ?_
  refine or_iconst (v := nI 0) E rfl dL_split_1 ?_
  refine or_aload_n E rfl dL_split_2 ?_
  refine or_iload_n E rfl dL_split_3 ?_
  refine or_iload_n E rfl dL_split_4 ?_
  refine or_xVH (st := [.int (nI 0), .ref o]) [.int p0, .int p1] hC E G T9 lk_L_40 dL_split_5 hx rfl rfl rfl (Nat.le_refl _) (by decide) ⟨Nat.le_of_eq (Nat.zero_add _), Nat.le_of_eq (Nat.zero_add _)⟩ (Nat.le_of_ble_eq_true rfl) (fun r h1 hk => ?_) (fun c' h1 hc hk => ?_)
  · obtain ⟨a, rfl, ho⟩ := hr _ _ hk
    refine or_i2l E dL_split_8 ?_
    refine or_last E dL_split_9 ho rfl rfl (by decide) (by decide) ?_
    refine or_goto 25 E dL_split_10 rfl ?_
    refine or_iconst (v := nI 0) E rfl dL_split_25 ?_
    exact or_iret E F dL_split_26 (Nat.le_of_eq (Nat.zero_add _)) (Nat.le_of_eq (Nat.zero_add _)) (Or.inl ⟨some (.int a), h1, hk, rfl, ⟨a, rfl, rfl⟩⟩)
  · rcases hl _ _ hc hk with rfl | rfl | rfl
    · refine ⟨[], ⟨0, 10, 13, 31⟩, [⟨0, 10, 17, 19⟩, ⟨0, 10, 21, 13⟩], rfl, (fun z hz => by cases hz), by decide, by decide, cl_L_31, List.mem_of_getElem? (i := 2) rfl, fun q => ?_⟩
      refine or_astore E dL_split_13 (by decide) ?_
      refine or_iconst (v := nI 1) E rfl dL_split_15 ?_
      exact or_iret E F dL_split_16 (Nat.le_of_eq (Nat.zero_add _)) (Nat.le_of_eq (Nat.zero_add _)) (Or.inr ⟨3, hc, hk, rfl⟩)
    · refine ⟨[⟨0, 10, 13, 31⟩], ⟨0, 10, 17, 19⟩, [⟨0, 10, 21, 13⟩], rfl, (fun z hz => by
        cases List.mem_singleton.mp hz
        exact ⟨by decide, _, cl_L_31, List.mem_of_getElem? (i := 2) rfl⟩), by decide, by decide, cl_L_19, List.mem_of_getElem? (i := 0) rfl, fun q => ?_⟩
      refine or_astore E dL_split_17 (by decide) ?_
      refine or_iconst (v := nI 2) E rfl dL_split_19 ?_
      exact or_iret E F dL_split_20 (Nat.le_of_eq (Nat.zero_add _)) (Nat.le_of_eq (Nat.zero_add _)) (Or.inr ⟨1, hc, hk, rfl⟩)
    · refine ⟨[⟨0, 10, 13, 31⟩, ⟨0, 10, 17, 19⟩], ⟨0, 10, 21, 13⟩, [], rfl, (fun z hz => by
        rcases List.mem_cons.mp hz with rfl | hz
        · exact ⟨by decide, _, cl_L_31, List.mem_of_getElem? (i := 0) rfl⟩
        · cases List.mem_singleton.mp hz
          exact ⟨by decide, _, cl_L_19, List.mem_of_getElem? (i := 1) rfl⟩), by decide, by decide, cl_L_13, List.mem_of_getElem? (i := 1) rfl, fun q => ?_⟩
      refine or_astore E dL_split_21 (by decide) ?_
      refine or_iconst (v := nI 3) E rfl dL_split_23 ?_
      exact or_iret E F dL_split_24 (Nat.le_of_eq (Nat.zero_add _)) (Nat.le_of_eq (Nat.zero_add _)) (Or.inr ⟨2, hc, hk, rfl⟩)
theorem lk_L_44 : ow_lv RL 44 yX10_withdraw cX10_withdraw 2 (some .int) 1 := ⟨ow_T_in 1321 (by decide +kernel) (by decide +kernel), ow_T_in 1322 (by decide +kernel) (by decide +kernel), ow_T_in 1323 (by decide +kernel) (by decide +kernel), ow_T_in 1 (by decide +kernel) (by decide +kernel), ow_T_in 1324 (by decide +kernel) (by decide +kernel), ⟨by decide +kernel, by decide +kernel, by decide +kernel⟩⟩
set_option maxRecDepth 100000 in
set_option maxHeartbeats 400000 in
theorem wL_withdraw {Z : Nat → Nat} {h : ow_H} {x o k mc ms : Nat} {p0 : Int32} {Kc : Nat → Option Value → ow_H → Prop} (hC : ow_Cx Z yX10_withdraw cX10_withdraw 2 (some .int) k mc ms [.ref x, .int p0] h Kc) (hx : h.1 x = some (.inl (10, au_k x))) (hr : ∀ r h0, Kc 0 r h0 → ∃ a : Int32, r = some (.int a) ∧ h0.1 o = some (.inr (.long, 1, ol_l))) (hl : ∀ c' h1, 0 < c' → Kc c' none h1 → c' = 3 ∨ c' = 2) : ow_Ch Z yL_withdraw cL_withdraw 4 (some .int) [(0, 9, 12, 31), (0, 9, 15, 13)] (k + 1) mc ms [.ref x, .int p0, .ref o] h (wK Kc (wI o) [3, 2]) := by
  refine ow_Ch.of rfl (Nat.le_of_ble_eq_true rfl) (fun X E G T9 F => ?_)
  have E : ow_E X RL cL_withdraw 4 (ow_rm (k + 1) mc ms) := E
  refine or_lv [(0, .ref x), (1, .int p0), (2, .ref o)] rfl ?_
  refine or_aload_n E rfl dL_withdraw_0 ?_
  refine or_iconst (v := nI 0) E rfl dL_withdraw_1 ?_
  refine or_aload_n E rfl dL_withdraw_2 ?_
  refine or_iload_n E rfl dL_withdraw_3 ?_
  refine or_xVH (st := [.int (nI 0), .ref o]) [.int p0] hC E G T9 lk_L_44 dL_withdraw_4 hx rfl rfl rfl (Nat.le_refl _) (by decide) ⟨Nat.le_of_eq (Nat.zero_add _), Nat.le_of_eq (Nat.zero_add _)⟩ (Nat.le_of_ble_eq_true rfl) (fun r h1 hk => ?_) (fun c' h1 hc hk => ?_)
  · obtain ⟨a, rfl, ho⟩ := hr _ _ hk
    refine or_i2l E dL_withdraw_7 ?_
    refine or_last E dL_withdraw_8 ho rfl rfl (by decide) (by decide) ?_
    refine or_goto 18 E dL_withdraw_9 rfl ?_
    refine or_iconst (v := nI 0) E rfl dL_withdraw_18 ?_
    exact or_iret E F dL_withdraw_19 (Nat.le_of_eq (Nat.zero_add _)) (Nat.le_of_eq (Nat.zero_add _)) (Or.inl ⟨some (.int a), h1, hk, rfl, ⟨a, rfl, rfl⟩⟩)
  · rcases hl _ _ hc hk with rfl | rfl
    · refine ⟨[], ⟨0, 9, 12, 31⟩, [⟨0, 9, 15, 13⟩], rfl, (fun z hz => by cases hz), by decide, by decide, cl_L_31, List.mem_of_getElem? (i := 2) rfl, fun q => ?_⟩
      refine or_astore_n E dL_withdraw_12 (by decide) ?_
      refine or_iconst (v := nI 1) E rfl dL_withdraw_13 ?_
      exact or_iret E F dL_withdraw_14 (Nat.le_of_eq (Nat.zero_add _)) (Nat.le_of_eq (Nat.zero_add _)) (Or.inr ⟨3, hc, hk, rfl⟩)
    · refine ⟨[⟨0, 9, 12, 31⟩], ⟨0, 9, 15, 13⟩, [], rfl, (fun z hz => by
        cases List.mem_singleton.mp hz
        exact ⟨by decide, _, cl_L_31, List.mem_of_getElem? (i := 0) rfl⟩), by decide, by decide, cl_L_13, List.mem_of_getElem? (i := 1) rfl, fun q => ?_⟩
      refine or_astore_n E dL_withdraw_15 (by decide) ?_
      refine or_iconst (v := nI 2) E rfl dL_withdraw_16 ?_
      exact or_iret E F dL_withdraw_17 (Nat.le_of_eq (Nat.zero_add _)) (Nat.le_of_eq (Nat.zero_add _)) (Or.inr ⟨2, hc, hk, rfl⟩)
theorem lk_L_47 : ow_lv RL 47 yX10_fund cX10_fund 3 (some .int) 2 := ⟨ow_T_in 1330 (by decide +kernel) (by decide +kernel), ow_T_in 1331 (by decide +kernel) (by decide +kernel), ow_T_in 1332 (by decide +kernel) (by decide +kernel), ow_T_in 1 (by decide +kernel) (by decide +kernel), ow_T_in 1333 (by decide +kernel) (by decide +kernel), ⟨by decide +kernel, by decide +kernel, by decide +kernel⟩⟩
set_option maxRecDepth 100000 in
set_option maxHeartbeats 400000 in
theorem wL_fund {Z : Nat → Nat} {h : ow_H} {x o k mc ms : Nat} {p0 : Int32} {p1 : Int32} {Kc : Nat → Option Value → ow_H → Prop} (hC : ow_Cx Z yX10_fund cX10_fund 3 (some .int) k mc ms [.ref x, .int p0, .int p1] h Kc) (hx : h.1 x = some (.inl (10, au_k x))) (hr : ∀ r h0, Kc 0 r h0 → ∃ a : Int32, r = some (.int a) ∧ h0.1 o = some (.inr (.long, 1, ol_l))) (hl : ∀ c' h1, 0 < c' → Kc c' none h1 → c' = 3 ∨ c' = 1) : ow_Ch Z yL_fund cL_fund 5 (some .int) [(0, 10, 13, 31), (0, 10, 17, 19)] (k + 1) mc ms [.ref x, .int p0, .int p1, .ref o] h (wK Kc (wI o) [3, 1]) := by
  refine ow_Ch.of rfl (Nat.le_of_ble_eq_true rfl) (fun X E G T9 F => ?_)
  have E : ow_E X RL cL_fund 5 (ow_rm (k + 1) mc ms) := E
  refine or_lv [(0, .ref x), (1, .int p0), (2, .int p1), (3, .ref o)] rfl ?_
  refine or_aload_n E rfl dL_fund_0 ?_
  refine or_iconst (v := nI 0) E rfl dL_fund_1 ?_
  refine or_aload_n E rfl dL_fund_2 ?_
  refine or_iload_n E rfl dL_fund_3 ?_
  refine or_iload_n E rfl dL_fund_4 ?_
  refine or_xVH (st := [.int (nI 0), .ref o]) [.int p0, .int p1] hC E G T9 lk_L_47 dL_fund_5 hx rfl rfl rfl (Nat.le_refl _) (by decide) ⟨Nat.le_of_eq (Nat.zero_add _), Nat.le_of_eq (Nat.zero_add _)⟩ (Nat.le_of_ble_eq_true rfl) (fun r h1 hk => ?_) (fun c' h1 hc hk => ?_)
  · obtain ⟨a, rfl, ho⟩ := hr _ _ hk
    refine or_i2l E dL_fund_8 ?_
    refine or_last E dL_fund_9 ho rfl rfl (by decide) (by decide) ?_
    refine or_goto 21 E dL_fund_10 rfl ?_
    refine or_iconst (v := nI 0) E rfl dL_fund_21 ?_
    exact or_iret E F dL_fund_22 (Nat.le_of_eq (Nat.zero_add _)) (Nat.le_of_eq (Nat.zero_add _)) (Or.inl ⟨some (.int a), h1, hk, rfl, ⟨a, rfl, rfl⟩⟩)
  · rcases hl _ _ hc hk with rfl | rfl
    · refine ⟨[], ⟨0, 10, 13, 31⟩, [⟨0, 10, 17, 19⟩], rfl, (fun z hz => by cases hz), by decide, by decide, cl_L_31, List.mem_of_getElem? (i := 2) rfl, fun q => ?_⟩
      refine or_astore E dL_fund_13 (by decide) ?_
      refine or_iconst (v := nI 1) E rfl dL_fund_15 ?_
      exact or_iret E F dL_fund_16 (Nat.le_of_eq (Nat.zero_add _)) (Nat.le_of_eq (Nat.zero_add _)) (Or.inr ⟨3, hc, hk, rfl⟩)
    · refine ⟨[⟨0, 10, 13, 31⟩], ⟨0, 10, 17, 19⟩, [], rfl, (fun z hz => by
        cases List.mem_singleton.mp hz
        exact ⟨by decide, _, cl_L_31, List.mem_of_getElem? (i := 2) rfl⟩), by decide, by decide, cl_L_19, List.mem_of_getElem? (i := 0) rfl, fun q => ?_⟩
      refine or_astore E dL_fund_17 (by decide) ?_
      refine or_iconst (v := nI 2) E rfl dL_fund_19 ?_
      exact or_iret E F dL_fund_20 (Nat.le_of_eq (Nat.zero_add _)) (Nat.le_of_eq (Nat.zero_add _)) (Or.inr ⟨1, hc, hk, rfl⟩)
theorem lk_L_50 : ow_lv RL 50 yX10_setReserve cX10_setReserve 4 (some .int) 2 := ⟨ow_T_in 1338 (by decide +kernel) (by decide +kernel), ow_T_in 1339 (by decide +kernel) (by decide +kernel), ow_T_in 1340 (by decide +kernel) (by decide +kernel), ow_T_in 1 (by decide +kernel) (by decide +kernel), ow_T_in 1341 (by decide +kernel) (by decide +kernel), ⟨by decide +kernel, by decide +kernel, by decide +kernel⟩⟩
set_option maxRecDepth 100000 in
set_option maxHeartbeats 400000 in
theorem wL_setReserve {Z : Nat → Nat} {h : ow_H} {x o k mc ms : Nat} {p0 : Int32} {p1 : Int32} {Kc : Nat → Option Value → ow_H → Prop} (hC : ow_Cx Z yX10_setReserve cX10_setReserve 4 (some .int) k mc ms [.ref x, .int p0, .int p1] h Kc) (hx : h.1 x = some (.inl (10, au_k x))) (hr : ∀ r h0, Kc 0 r h0 → ∃ a : Int32, r = some (.int a) ∧ h0.1 o = some (.inr (.long, 1, ol_l))) (hl : ∀ c' h1, 0 < c' → Kc c' none h1 → c' = 3 ∨ c' = 1 ∨ c' = 2) : ow_Ch Z yL_setReserve cL_setReserve 5 (some .int) [(0, 10, 13, 31), (0, 10, 17, 19), (0, 10, 21, 13)] (k + 1) mc ms [.ref x, .int p0, .int p1, .ref o] h (wK Kc (wI o) [3, 1, 2]) := by
  refine ow_Ch.of rfl (Nat.le_of_ble_eq_true rfl) (fun X E G T9 F => ?_)
  have E : ow_E X RL cL_setReserve 5 (ow_rm (k + 1) mc ms) := E
  refine or_lv [(0, .ref x), (1, .int p0), (2, .int p1), (3, .ref o)] rfl ?_
  refine or_aload_n E rfl dL_setReserve_0 ?_
  refine or_iconst (v := nI 0) E rfl dL_setReserve_1 ?_
  refine or_aload_n E rfl dL_setReserve_2 ?_
  refine or_iload_n E rfl dL_setReserve_3 ?_
  refine or_iload_n E rfl dL_setReserve_4 ?_
  refine or_xVH (st := [.int (nI 0), .ref o]) [.int p0, .int p1] hC E G T9 lk_L_50 dL_setReserve_5 hx rfl rfl rfl (Nat.le_refl _) (by decide) ⟨Nat.le_of_eq (Nat.zero_add _), Nat.le_of_eq (Nat.zero_add _)⟩ (Nat.le_of_ble_eq_true rfl) (fun r h1 hk => ?_) (fun c' h1 hc hk => ?_)
  · obtain ⟨a, rfl, ho⟩ := hr _ _ hk
    refine or_i2l E dL_setReserve_8 ?_
    refine or_last E dL_setReserve_9 ho rfl rfl (by decide) (by decide) ?_
    refine or_goto 25 E dL_setReserve_10 rfl ?_
    refine or_iconst (v := nI 0) E rfl dL_setReserve_25 ?_
    exact or_iret E F dL_setReserve_26 (Nat.le_of_eq (Nat.zero_add _)) (Nat.le_of_eq (Nat.zero_add _)) (Or.inl ⟨some (.int a), h1, hk, rfl, ⟨a, rfl, rfl⟩⟩)
  · rcases hl _ _ hc hk with rfl | rfl | rfl
    · refine ⟨[], ⟨0, 10, 13, 31⟩, [⟨0, 10, 17, 19⟩, ⟨0, 10, 21, 13⟩], rfl, (fun z hz => by cases hz), by decide, by decide, cl_L_31, List.mem_of_getElem? (i := 2) rfl, fun q => ?_⟩
      refine or_astore E dL_setReserve_13 (by decide) ?_
      refine or_iconst (v := nI 1) E rfl dL_setReserve_15 ?_
      exact or_iret E F dL_setReserve_16 (Nat.le_of_eq (Nat.zero_add _)) (Nat.le_of_eq (Nat.zero_add _)) (Or.inr ⟨3, hc, hk, rfl⟩)
    · refine ⟨[⟨0, 10, 13, 31⟩], ⟨0, 10, 17, 19⟩, [⟨0, 10, 21, 13⟩], rfl, (fun z hz => by
        cases List.mem_singleton.mp hz
        exact ⟨by decide, _, cl_L_31, List.mem_of_getElem? (i := 2) rfl⟩), by decide, by decide, cl_L_19, List.mem_of_getElem? (i := 0) rfl, fun q => ?_⟩
      refine or_astore E dL_setReserve_17 (by decide) ?_
      refine or_iconst (v := nI 2) E rfl dL_setReserve_19 ?_
      exact or_iret E F dL_setReserve_20 (Nat.le_of_eq (Nat.zero_add _)) (Nat.le_of_eq (Nat.zero_add _)) (Or.inr ⟨1, hc, hk, rfl⟩)
    · refine ⟨[⟨0, 10, 13, 31⟩, ⟨0, 10, 17, 19⟩], ⟨0, 10, 21, 13⟩, [], rfl, (fun z hz => by
        rcases List.mem_cons.mp hz with rfl | hz
        · exact ⟨by decide, _, cl_L_31, List.mem_of_getElem? (i := 0) rfl⟩
        · cases List.mem_singleton.mp hz
          exact ⟨by decide, _, cl_L_19, List.mem_of_getElem? (i := 1) rfl⟩), by decide, by decide, cl_L_13, List.mem_of_getElem? (i := 1) rfl, fun q => ?_⟩
      refine or_astore E dL_setReserve_21 (by decide) ?_
      refine or_iconst (v := nI 3) E rfl dL_setReserve_23 ?_
      exact or_iret E F dL_setReserve_24 (Nat.le_of_eq (Nat.zero_add _)) (Nat.le_of_eq (Nat.zero_add _)) (Or.inr ⟨2, hc, hk, rfl⟩)
theorem lk_L_53 : ow_lv RL 53 yX10_setStep cX10_setStep 3 (some .int) 1 := ⟨ow_T_in 1345 (by decide +kernel) (by decide +kernel), ow_T_in 1346 (by decide +kernel) (by decide +kernel), ow_T_in 1347 (by decide +kernel) (by decide +kernel), ow_T_in 1 (by decide +kernel) (by decide +kernel), ow_T_in 1348 (by decide +kernel) (by decide +kernel), ⟨by decide +kernel, by decide +kernel, by decide +kernel⟩⟩
set_option maxRecDepth 100000 in
set_option maxHeartbeats 400000 in
theorem wL_setStep {Z : Nat → Nat} {h : ow_H} {x o k mc ms : Nat} {p0 : Int32} {Kc : Nat → Option Value → ow_H → Prop} (hC : ow_Cx Z yX10_setStep cX10_setStep 3 (some .int) k mc ms [.ref x, .int p0] h Kc) (hx : h.1 x = some (.inl (10, au_k x))) (hr : ∀ r h0, Kc 0 r h0 → ∃ a : Int32, r = some (.int a) ∧ h0.1 o = some (.inr (.long, 1, ol_l))) (hl : ∀ c' h1, 0 < c' → Kc c' none h1 → c' = 1) : ow_Ch Z yL_setStep cL_setStep 4 (some .int) [(0, 9, 12, 19)] (k + 1) mc ms [.ref x, .int p0, .ref o] h (wK Kc (wI o) [1]) := by
  refine ow_Ch.of rfl (Nat.le_of_ble_eq_true rfl) (fun X E G T9 F => ?_)
  have E : ow_E X RL cL_setStep 4 (ow_rm (k + 1) mc ms) := E
  refine or_lv [(0, .ref x), (1, .int p0), (2, .ref o)] rfl ?_
  refine or_aload_n E rfl dL_setStep_0 ?_
  refine or_iconst (v := nI 0) E rfl dL_setStep_1 ?_
  refine or_aload_n E rfl dL_setStep_2 ?_
  refine or_iload_n E rfl dL_setStep_3 ?_
  refine or_xVH (st := [.int (nI 0), .ref o]) [.int p0] hC E G T9 lk_L_53 dL_setStep_4 hx rfl rfl rfl (Nat.le_refl _) (by decide) ⟨Nat.le_of_eq (Nat.zero_add _), Nat.le_of_eq (Nat.zero_add _)⟩ (Nat.le_of_ble_eq_true rfl) (fun r h1 hk => ?_) (fun c' h1 hc hk => ?_)
  · obtain ⟨a, rfl, ho⟩ := hr _ _ hk
    refine or_i2l E dL_setStep_7 ?_
    refine or_last E dL_setStep_8 ho rfl rfl (by decide) (by decide) ?_
    refine or_goto 15 E dL_setStep_9 rfl ?_
    refine or_iconst (v := nI 0) E rfl dL_setStep_15 ?_
    exact or_iret E F dL_setStep_16 (Nat.le_of_eq (Nat.zero_add _)) (Nat.le_of_eq (Nat.zero_add _)) (Or.inl ⟨some (.int a), h1, hk, rfl, ⟨a, rfl, rfl⟩⟩)
  · have e := hl _ _ hc hk
    subst e
    refine ⟨[], ⟨0, 9, 12, 19⟩, [], rfl, (fun z hz => by cases hz), by decide, by decide, cl_L_19, List.mem_of_getElem? (i := 0) rfl, fun q => ?_⟩
    refine or_astore_n E dL_setStep_12 (by decide) ?_
    refine or_iconst (v := nI 1) E rfl dL_setStep_13 ?_
    exact or_iret E F dL_setStep_14 (Nat.le_of_eq (Nat.zero_add _)) (Nat.le_of_eq (Nat.zero_add _)) (Or.inr ⟨1, hc, hk, rfl⟩)
theorem lk_L_56 : ow_lv RL 56 yX10_setTaste cX10_setTaste 6 (some .int) 3 := ⟨ow_T_in 1352 (by decide +kernel) (by decide +kernel), ow_T_in 1353 (by decide +kernel) (by decide +kernel), ow_T_in 1354 (by decide +kernel) (by decide +kernel), ow_T_in 1 (by decide +kernel) (by decide +kernel), ow_T_in 1355 (by decide +kernel) (by decide +kernel), ⟨by decide +kernel, by decide +kernel, by decide +kernel⟩⟩
set_option maxRecDepth 100000 in
set_option maxHeartbeats 400000 in
theorem wL_setTaste {Z : Nat → Nat} {h : ow_H} {x o k mc ms : Nat} {p0 : Int32} {p1 : Int32} {p2 : Int32} {Kc : Nat → Option Value → ow_H → Prop} (hC : ow_Cx Z yX10_setTaste cX10_setTaste 6 (some .int) k mc ms [.ref x, .int p0, .int p1, .int p2] h Kc) (hx : h.1 x = some (.inl (10, au_k x))) (hr : ∀ r h0, Kc 0 r h0 → ∃ a : Int32, r = some (.int a) ∧ h0.1 o = some (.inr (.long, 1, ol_l))) (hl : ∀ c' h1, 0 < c' → Kc c' none h1 → c' = 3 ∨ c' = 1) : ow_Ch Z yL_setTaste cL_setTaste 6 (some .int) [(0, 12, 15, 31), (0, 12, 19, 19)] (k + 1) mc ms [.ref x, .int p0, .int p1, .int p2, .ref o] h (wK Kc (wI o) [3, 1]) := by
  refine ow_Ch.of rfl (Nat.le_of_ble_eq_true rfl) (fun X E G T9 F => ?_)
  have E : ow_E X RL cL_setTaste 6 (ow_rm (k + 1) mc ms) := E
  refine or_lv [(0, .ref x), (1, .int p0), (2, .int p1), (3, .int p2), (4, .ref o)] rfl ?_
  refine or_aload E rfl dL_setTaste_0 ?_
  refine or_iconst (v := nI 0) E rfl dL_setTaste_2 ?_
  refine or_aload_n E rfl dL_setTaste_3 ?_
  refine or_iload_n E rfl dL_setTaste_4 ?_
  refine or_iload_n E rfl dL_setTaste_5 ?_
  refine or_iload_n E rfl dL_setTaste_6 ?_
  refine or_xVH (st := [.int (nI 0), .ref o]) [.int p0, .int p1, .int p2] hC E G T9 lk_L_56 dL_setTaste_7 hx rfl rfl rfl (Nat.le_refl _) (by decide) ⟨Nat.le_of_eq (Nat.zero_add _), Nat.le_of_eq (Nat.zero_add _)⟩ (Nat.le_of_ble_eq_true rfl) (fun r h1 hk => ?_) (fun c' h1 hc hk => ?_)
  · obtain ⟨a, rfl, ho⟩ := hr _ _ hk
    refine or_i2l E dL_setTaste_10 ?_
    refine or_last E dL_setTaste_11 ho rfl rfl (by decide) (by decide) ?_
    refine or_goto 23 E dL_setTaste_12 rfl ?_
    refine or_iconst (v := nI 0) E rfl dL_setTaste_23 ?_
    exact or_iret E F dL_setTaste_24 (Nat.le_of_eq (Nat.zero_add _)) (Nat.le_of_eq (Nat.zero_add _)) (Or.inl ⟨some (.int a), h1, hk, rfl, ⟨a, rfl, rfl⟩⟩)
  · rcases hl _ _ hc hk with rfl | rfl
    · refine ⟨[], ⟨0, 12, 15, 31⟩, [⟨0, 12, 19, 19⟩], rfl, (fun z hz => by cases hz), by decide, by decide, cl_L_31, List.mem_of_getElem? (i := 2) rfl, fun q => ?_⟩
      refine or_astore E dL_setTaste_15 (by decide) ?_
      refine or_iconst (v := nI 1) E rfl dL_setTaste_17 ?_
      exact or_iret E F dL_setTaste_18 (Nat.le_of_eq (Nat.zero_add _)) (Nat.le_of_eq (Nat.zero_add _)) (Or.inr ⟨3, hc, hk, rfl⟩)
    · refine ⟨[⟨0, 12, 15, 31⟩], ⟨0, 12, 19, 19⟩, [], rfl, (fun z hz => by
        cases List.mem_singleton.mp hz
        exact ⟨by decide, _, cl_L_31, List.mem_of_getElem? (i := 2) rfl⟩), by decide, by decide, cl_L_19, List.mem_of_getElem? (i := 0) rfl, fun q => ?_⟩
      refine or_astore E dL_setTaste_19 (by decide) ?_
      refine or_iconst (v := nI 2) E rfl dL_setTaste_21 ?_
      exact or_iret E F dL_setTaste_22 (Nat.le_of_eq (Nat.zero_add _)) (Nat.le_of_eq (Nat.zero_add _)) (Or.inr ⟨1, hc, hk, rfl⟩)
theorem lk_L_59 : ow_lv RL 59 yX10_undo cX10_undo 1 (some .int) 0 := ⟨ow_T_in 1360 (by decide +kernel) (by decide +kernel), ow_T_in 1361 (by decide +kernel) (by decide +kernel), ow_T_in 1362 (by decide +kernel) (by decide +kernel), ow_T_in 1 (by decide +kernel) (by decide +kernel), ow_T_in 1363 (by decide +kernel) (by decide +kernel), ⟨by decide +kernel, by decide +kernel, by decide +kernel⟩⟩
theorem cl_L_62 : Cond.classLink RL 62 "java/util/NoSuchElementException" ∈ ow_T := ow_T_in 1359 (by decide +kernel) (by decide +kernel)
set_option maxRecDepth 100000 in
set_option maxHeartbeats 400000 in
theorem wL_undo {Z : Nat → Nat} {h : ow_H} {x o k mc ms : Nat} {Kc : Nat → Option Value → ow_H → Prop} (hC : ow_Cx Z yX10_undo cX10_undo 1 (some .int) k mc ms [.ref x] h Kc) (hx : h.1 x = some (.inl (10, au_k x))) (hr : ∀ r h0, Kc 0 r h0 → ∃ a : Int32, r = some (.int a) ∧ h0.1 o = some (.inr (.long, 1, ol_l))) (hl : ∀ c' h1, 0 < c' → Kc c' none h1 → c' = 4) : ow_Ch Z yL_undo cL_undo 3 (some .int) [(0, 8, 11, 62)] (k + 1) mc ms [.ref x, .ref o] h (wK Kc (wI o) [4]) := by
  refine ow_Ch.of rfl (Nat.le_of_ble_eq_true rfl) (fun X E G T9 F => ?_)
  have E : ow_E X RL cL_undo 3 (ow_rm (k + 1) mc ms) := E
  refine or_lv [(0, .ref x), (1, .ref o)] rfl ?_
  refine or_aload_n E rfl dL_undo_0 ?_
  refine or_iconst (v := nI 0) E rfl dL_undo_1 ?_
  refine or_aload_n E rfl dL_undo_2 ?_
  refine or_xVH (st := [.int (nI 0), .ref o]) [] hC E G T9 lk_L_59 dL_undo_3 hx rfl rfl rfl (Nat.le_refl _) (by decide) ⟨Nat.le_of_eq (Nat.zero_add _), Nat.le_of_eq (Nat.zero_add _)⟩ (Nat.le_of_ble_eq_true rfl) (fun r h1 hk => ?_) (fun c' h1 hc hk => ?_)
  · obtain ⟨a, rfl, ho⟩ := hr _ _ hk
    refine or_i2l E dL_undo_6 ?_
    refine or_last E dL_undo_7 ho rfl rfl (by decide) (by decide) ?_
    refine or_goto 14 E dL_undo_8 rfl ?_
    refine or_iconst (v := nI 0) E rfl dL_undo_14 ?_
    exact or_iret E F dL_undo_15 (Nat.le_of_eq (Nat.zero_add _)) (Nat.le_of_eq (Nat.zero_add _)) (Or.inl ⟨some (.int a), h1, hk, rfl, ⟨a, rfl, rfl⟩⟩)
  · have e := hl _ _ hc hk
    subst e
    refine ⟨[], ⟨0, 8, 11, 62⟩, [], rfl, (fun z hz => by cases hz), by decide, by decide, cl_L_62, List.mem_of_getElem? (i := 3) rfl, fun q => ?_⟩
    refine or_astore_n E dL_undo_11 (by decide) ?_
    refine or_iconst (v := nI 1) E rfl dL_undo_12 ?_
    exact or_iret E F dL_undo_13 (Nat.le_of_eq (Nat.zero_add _)) (Nat.le_of_eq (Nat.zero_add _)) (Or.inr ⟨4, hc, hk, rfl⟩)
theorem lk_L_64 : ow_lv RL 64 yX10_saveSnapshot cX10_saveSnapshot 2 none 1 := ⟨ow_T_in 1387 (by decide +kernel) (by decide +kernel), ow_T_in 1388 (by decide +kernel) (by decide +kernel), ow_T_in 1389 (by decide +kernel) (by decide +kernel), ow_T_in 1 (by decide +kernel) (by decide +kernel), ow_T_in 1390 (by decide +kernel) (by decide +kernel), ⟨by decide +kernel, by decide +kernel, by decide +kernel⟩⟩
set_option maxRecDepth 100000 in
set_option maxHeartbeats 400000 in
theorem wL_saveSnapshot {Z : Nat → Nat} {h : ow_H} {x k mc ms : Nat} {p0 : Int32} {Kc : Nat → Option Value → ow_H → Prop} (hC : ow_Cx Z yX10_saveSnapshot cX10_saveSnapshot 2 none k mc ms [.ref x, .int p0] h Kc) (hx : h.1 x = some (.inl (10, au_k x))) (hr : ∀ r h0, Kc 0 r h0 → r = none) (hl : ∀ c' h1, 0 < c' → Kc c' none h1 → c' = 1) : ow_Ch Z yL_saveSnapshot cL_saveSnapshot 3 (some .int) [(0, 5, 8, 19)] (k + 1) mc ms [.ref x, .int p0] h (wK Kc (wN) [1]) := by
  refine ow_Ch.of rfl (Nat.le_of_ble_eq_true rfl) (fun X E G T9 F => ?_)
  have E : ow_E X RL cL_saveSnapshot 3 (ow_rm (k + 1) mc ms) := E
  refine or_lv [(0, .ref x), (1, .int p0)] rfl ?_
  refine or_aload_n E rfl dL_saveSnapshot_0 ?_
  refine or_iload_n E rfl dL_saveSnapshot_1 ?_
  refine or_xVH (st := []) [.int p0] hC E G T9 lk_L_64 dL_saveSnapshot_2 hx rfl rfl rfl (Nat.le_refl _) (by decide) ⟨Nat.le_of_eq (Nat.zero_add _), Nat.le_of_eq (Nat.zero_add _)⟩ (Nat.le_of_ble_eq_true rfl) (fun r h1 hk => ?_) (fun c' h1 hc hk => ?_)
  · have e := hr _ _ hk
    subst e
    refine or_goto 11 E dL_saveSnapshot_5 rfl ?_
    refine or_iconst (v := nI 0) E rfl dL_saveSnapshot_11 ?_
    exact or_iret E F dL_saveSnapshot_12 (Nat.le_of_eq (Nat.zero_add _)) (Nat.le_of_eq (Nat.zero_add _)) (Or.inl ⟨none, h1, hk, rfl, rfl⟩)
  · have e := hl _ _ hc hk
    subst e
    refine ⟨[], ⟨0, 5, 8, 19⟩, [], rfl, (fun z hz => by cases hz), by decide, by decide, cl_L_19, List.mem_of_getElem? (i := 0) rfl, fun q => ?_⟩
    refine or_astore_n E dL_saveSnapshot_8 (by decide) ?_
    refine or_iconst (v := nI 1) E rfl dL_saveSnapshot_9 ?_
    exact or_iret E F dL_saveSnapshot_10 (Nat.le_of_eq (Nat.zero_add _)) (Nat.le_of_eq (Nat.zero_add _)) (Or.inr ⟨1, hc, hk, rfl⟩)
theorem lk_L_68 : ow_lv RL 68 yX10_restoreSnapshot cX10_restoreSnapshot 2 (some .int) 1 := ⟨ow_T_in 1394 (by decide +kernel) (by decide +kernel), ow_T_in 1395 (by decide +kernel) (by decide +kernel), ow_T_in 1396 (by decide +kernel) (by decide +kernel), ow_T_in 1 (by decide +kernel) (by decide +kernel), ow_T_in 1397 (by decide +kernel) (by decide +kernel), ⟨by decide +kernel, by decide +kernel, by decide +kernel⟩⟩
set_option maxRecDepth 100000 in
set_option maxHeartbeats 400000 in
theorem wL_restoreSnapshot {Z : Nat → Nat} {h : ow_H} {x o k mc ms : Nat} {p0 : Int32} {Kc : Nat → Option Value → ow_H → Prop} (hC : ow_Cx Z yX10_restoreSnapshot cX10_restoreSnapshot 2 (some .int) k mc ms [.ref x, .int p0] h Kc) (hx : h.1 x = some (.inl (10, au_k x))) (hr : ∀ r h0, Kc 0 r h0 → ∃ a : Int32, r = some (.int a) ∧ h0.1 o = some (.inr (.long, 1, ol_l))) (hl : ∀ c' h1, 0 < c' → Kc c' none h1 → c' = 1 ∨ c' = 4) : ow_Ch Z yL_restoreSnapshot cL_restoreSnapshot 4 (some .int) [(0, 9, 12, 19), (0, 9, 15, 62)] (k + 1) mc ms [.ref x, .int p0, .ref o] h (wK Kc (wI o) [1, 4]) := by
  refine ow_Ch.of rfl (Nat.le_of_ble_eq_true rfl) (fun X E G T9 F => ?_)
  have E : ow_E X RL cL_restoreSnapshot 4 (ow_rm (k + 1) mc ms) := E
  refine or_lv [(0, .ref x), (1, .int p0), (2, .ref o)] rfl ?_
  refine or_aload_n E rfl dL_restoreSnapshot_0 ?_
  refine or_iconst (v := nI 0) E rfl dL_restoreSnapshot_1 ?_
  refine or_aload_n E rfl dL_restoreSnapshot_2 ?_
  refine or_iload_n E rfl dL_restoreSnapshot_3 ?_
  refine or_xVH (st := [.int (nI 0), .ref o]) [.int p0] hC E G T9 lk_L_68 dL_restoreSnapshot_4 hx rfl rfl rfl (Nat.le_refl _) (by decide) ⟨Nat.le_of_eq (Nat.zero_add _), Nat.le_of_eq (Nat.zero_add _)⟩ (Nat.le_of_ble_eq_true rfl) (fun r h1 hk => ?_) (fun c' h1 hc hk => ?_)
  · obtain ⟨a, rfl, ho⟩ := hr _ _ hk
    refine or_i2l E dL_restoreSnapshot_7 ?_
    refine or_last E dL_restoreSnapshot_8 ho rfl rfl (by decide) (by decide) ?_
    refine or_goto 18 E dL_restoreSnapshot_9 rfl ?_
    refine or_iconst (v := nI 0) E rfl dL_restoreSnapshot_18 ?_
    exact or_iret E F dL_restoreSnapshot_19 (Nat.le_of_eq (Nat.zero_add _)) (Nat.le_of_eq (Nat.zero_add _)) (Or.inl ⟨some (.int a), h1, hk, rfl, ⟨a, rfl, rfl⟩⟩)
  · rcases hl _ _ hc hk with rfl | rfl
    · refine ⟨[], ⟨0, 9, 12, 19⟩, [⟨0, 9, 15, 62⟩], rfl, (fun z hz => by cases hz), by decide, by decide, cl_L_19, List.mem_of_getElem? (i := 0) rfl, fun q => ?_⟩
      refine or_astore_n E dL_restoreSnapshot_12 (by decide) ?_
      refine or_iconst (v := nI 1) E rfl dL_restoreSnapshot_13 ?_
      exact or_iret E F dL_restoreSnapshot_14 (Nat.le_of_eq (Nat.zero_add _)) (Nat.le_of_eq (Nat.zero_add _)) (Or.inr ⟨1, hc, hk, rfl⟩)
    · refine ⟨[⟨0, 9, 12, 19⟩], ⟨0, 9, 15, 62⟩, [], rfl, (fun z hz => by
        cases List.mem_singleton.mp hz
        exact ⟨by decide, _, cl_L_19, List.mem_of_getElem? (i := 3) rfl⟩), by decide, by decide, cl_L_62, List.mem_of_getElem? (i := 3) rfl, fun q => ?_⟩
      refine or_astore_n E dL_restoreSnapshot_15 (by decide) ?_
      refine or_iconst (v := nI 2) E rfl dL_restoreSnapshot_16 ?_
      exact or_iret E F dL_restoreSnapshot_17 (Nat.le_of_eq (Nat.zero_add _)) (Nat.le_of_eq (Nat.zero_add _)) (Or.inr ⟨4, hc, hk, rfl⟩)
theorem lk_L_71 : ow_lv RL 71 yX10_eels cX10_eels 2 (some .int) 1 := ⟨ow_T_in 1402 (by decide +kernel) (by decide +kernel), ow_T_in 1403 (by decide +kernel) (by decide +kernel), ow_T_in 1404 (by decide +kernel) (by decide +kernel), ow_T_in 1 (by decide +kernel) (by decide +kernel), ow_T_in 1405 (by decide +kernel) (by decide +kernel), ⟨by decide +kernel, by decide +kernel, by decide +kernel⟩⟩
set_option maxRecDepth 100000 in
set_option maxHeartbeats 400000 in
theorem wL_eels {Z : Nat → Nat} {h : ow_H} {x o k mc ms : Nat} {p0 : Int32} {Kc : Nat → Option Value → ow_H → Prop} (hC : ow_Cx Z yX10_eels cX10_eels 2 (some .int) k mc ms [.ref x, .int p0] h Kc) (hx : h.1 x = some (.inl (10, au_k x))) (hr : ∀ r h0, Kc 0 r h0 → ∃ a : Int32, r = some (.int a) ∧ h0.1 o = some (.inr (.long, 1, ol_l))) (hl : ∀ c' h1, 0 < c' → Kc c' none h1 → c' = 3) : ow_Ch Z yL_eels cL_eels 4 (some .int) [(0, 9, 12, 31)] (k + 1) mc ms [.ref x, .int p0, .ref o] h (wK Kc (wI o) [3]) := by
  refine ow_Ch.of rfl (Nat.le_of_ble_eq_true rfl) (fun X E G T9 F => ?_)
  have E : ow_E X RL cL_eels 4 (ow_rm (k + 1) mc ms) := E
  refine or_lv [(0, .ref x), (1, .int p0), (2, .ref o)] rfl ?_
  refine or_aload_n E rfl dL_eels_0 ?_
  refine or_iconst (v := nI 0) E rfl dL_eels_1 ?_
  refine or_aload_n E rfl dL_eels_2 ?_
  refine or_iload_n E rfl dL_eels_3 ?_
  refine or_xVH (st := [.int (nI 0), .ref o]) [.int p0] hC E G T9 lk_L_71 dL_eels_4 hx rfl rfl rfl (Nat.le_refl _) (by decide) ⟨Nat.le_of_eq (Nat.zero_add _), Nat.le_of_eq (Nat.zero_add _)⟩ (Nat.le_of_ble_eq_true rfl) (fun r h1 hk => ?_) (fun c' h1 hc hk => ?_)
  · obtain ⟨a, rfl, ho⟩ := hr _ _ hk
    refine or_i2l E dL_eels_7 ?_
    refine or_last E dL_eels_8 ho rfl rfl (by decide) (by decide) ?_
    refine or_goto 15 E dL_eels_9 rfl ?_
    refine or_iconst (v := nI 0) E rfl dL_eels_15 ?_
    exact or_iret E F dL_eels_16 (Nat.le_of_eq (Nat.zero_add _)) (Nat.le_of_eq (Nat.zero_add _)) (Or.inl ⟨some (.int a), h1, hk, rfl, ⟨a, rfl, rfl⟩⟩)
  · have e := hl _ _ hc hk
    subst e
    refine ⟨[], ⟨0, 9, 12, 31⟩, [], rfl, (fun z hz => by cases hz), by decide, by decide, cl_L_31, List.mem_of_getElem? (i := 2) rfl, fun q => ?_⟩
    refine or_astore_n E dL_eels_12 (by decide) ?_
    refine or_iconst (v := nI 1) E rfl dL_eels_13 ?_
    exact or_iret E F dL_eels_14 (Nat.le_of_eq (Nat.zero_add _)) (Nat.le_of_eq (Nat.zero_add _)) (Or.inr ⟨3, hc, hk, rfl⟩)
theorem lk_L_74 : ow_lv RL 74 yX10_length cX10_length 4 (some .int) 2 := ⟨ow_T_in 1413 (by decide +kernel) (by decide +kernel), ow_T_in 1414 (by decide +kernel) (by decide +kernel), ow_T_in 1415 (by decide +kernel) (by decide +kernel), ow_T_in 1 (by decide +kernel) (by decide +kernel), ow_T_in 1416 (by decide +kernel) (by decide +kernel), ⟨by decide +kernel, by decide +kernel, by decide +kernel⟩⟩
set_option maxRecDepth 100000 in
set_option maxHeartbeats 400000 in
theorem wL_length {Z : Nat → Nat} {h : ow_H} {x o k mc ms : Nat} {p0 : Int32} {p1 : Int32} {Kc : Nat → Option Value → ow_H → Prop} (hC : ow_Cx Z yX10_length cX10_length 4 (some .int) k mc ms [.ref x, .int p0, .int p1] h Kc) (hx : h.1 x = some (.inl (10, au_k x))) (hr : ∀ r h0, Kc 0 r h0 → ∃ a : Int32, r = some (.int a) ∧ h0.1 o = some (.inr (.long, 1, ol_l))) (hl : ∀ c' h1, 0 < c' → Kc c' none h1 → c' = 3) : ow_Ch Z yL_length cL_length 5 (some .int) [(0, 10, 13, 31)] (k + 1) mc ms [.ref x, .int p0, .int p1, .ref o] h (wK Kc (wI o) [3]) := by
  refine ow_Ch.of rfl (Nat.le_of_ble_eq_true rfl) (fun X E G T9 F => ?_)
  have E : ow_E X RL cL_length 5 (ow_rm (k + 1) mc ms) := E
  refine or_lv [(0, .ref x), (1, .int p0), (2, .int p1), (3, .ref o)] rfl ?_
  refine or_aload_n E rfl dL_length_0 ?_
  refine or_iconst (v := nI 0) E rfl dL_length_1 ?_
  refine or_aload_n E rfl dL_length_2 ?_
  refine or_iload_n E rfl dL_length_3 ?_
  refine or_iload_n E rfl dL_length_4 ?_
  refine or_xVH (st := [.int (nI 0), .ref o]) [.int p0, .int p1] hC E G T9 lk_L_74 dL_length_5 hx rfl rfl rfl (Nat.le_refl _) (by decide) ⟨Nat.le_of_eq (Nat.zero_add _), Nat.le_of_eq (Nat.zero_add _)⟩ (Nat.le_of_ble_eq_true rfl) (fun r h1 hk => ?_) (fun c' h1 hc hk => ?_)
  · obtain ⟨a, rfl, ho⟩ := hr _ _ hk
    refine or_i2l E dL_length_8 ?_
    refine or_last E dL_length_9 ho rfl rfl (by decide) (by decide) ?_
    refine or_goto 17 E dL_length_10 rfl ?_
    refine or_iconst (v := nI 0) E rfl dL_length_17 ?_
    exact or_iret E F dL_length_18 (Nat.le_of_eq (Nat.zero_add _)) (Nat.le_of_eq (Nat.zero_add _)) (Or.inl ⟨some (.int a), h1, hk, rfl, ⟨a, rfl, rfl⟩⟩)
  · have e := hl _ _ hc hk
    subst e
    refine ⟨[], ⟨0, 10, 13, 31⟩, [], rfl, (fun z hz => by cases hz), by decide, by decide, cl_L_31, List.mem_of_getElem? (i := 2) rfl, fun q => ?_⟩
    refine or_astore E dL_length_13 (by decide) ?_
    refine or_iconst (v := nI 1) E rfl dL_length_15 ?_
    exact or_iret E F dL_length_16 (Nat.le_of_eq (Nat.zero_add _)) (Nat.le_of_eq (Nat.zero_add _)) (Or.inr ⟨3, hc, hk, rfl⟩)
theorem lk_L_77 : ow_lv RL 77 yX10_totalLength cX10_totalLength 2 (some .int) 1 := ⟨ow_T_in 1421 (by decide +kernel) (by decide +kernel), ow_T_in 1422 (by decide +kernel) (by decide +kernel), ow_T_in 1423 (by decide +kernel) (by decide +kernel), ow_T_in 1 (by decide +kernel) (by decide +kernel), ow_T_in 1424 (by decide +kernel) (by decide +kernel), ⟨by decide +kernel, by decide +kernel, by decide +kernel⟩⟩
set_option maxRecDepth 100000 in
set_option maxHeartbeats 400000 in
theorem wL_totalLength {Z : Nat → Nat} {h : ow_H} {x o k mc ms : Nat} {p0 : Int32} {Kc : Nat → Option Value → ow_H → Prop} (hC : ow_Cx Z yX10_totalLength cX10_totalLength 2 (some .int) k mc ms [.ref x, .int p0] h Kc) (hx : h.1 x = some (.inl (10, au_k x))) (hr : ∀ r h0, Kc 0 r h0 → ∃ a : Int32, r = some (.int a) ∧ h0.1 o = some (.inr (.long, 1, ol_l))) (hl : ∀ c' h1, 0 < c' → Kc c' none h1 → c' = 3) : ow_Ch Z yL_totalLength cL_totalLength 4 (some .int) [(0, 9, 12, 31)] (k + 1) mc ms [.ref x, .int p0, .ref o] h (wK Kc (wI o) [3]) := by
  refine ow_Ch.of rfl (Nat.le_of_ble_eq_true rfl) (fun X E G T9 F => ?_)
  have E : ow_E X RL cL_totalLength 4 (ow_rm (k + 1) mc ms) := E
  refine or_lv [(0, .ref x), (1, .int p0), (2, .ref o)] rfl ?_
  refine or_aload_n E rfl dL_totalLength_0 ?_
  refine or_iconst (v := nI 0) E rfl dL_totalLength_1 ?_
  refine or_aload_n E rfl dL_totalLength_2 ?_
  refine or_iload_n E rfl dL_totalLength_3 ?_
  refine or_xVH (st := [.int (nI 0), .ref o]) [.int p0] hC E G T9 lk_L_77 dL_totalLength_4 hx rfl rfl rfl (Nat.le_refl _) (by decide) ⟨Nat.le_of_eq (Nat.zero_add _), Nat.le_of_eq (Nat.zero_add _)⟩ (Nat.le_of_ble_eq_true rfl) (fun r h1 hk => ?_) (fun c' h1 hc hk => ?_)
  · obtain ⟨a, rfl, ho⟩ := hr _ _ hk
    refine or_i2l E dL_totalLength_7 ?_
    refine or_last E dL_totalLength_8 ho rfl rfl (by decide) (by decide) ?_
    refine or_goto 15 E dL_totalLength_9 rfl ?_
    refine or_iconst (v := nI 0) E rfl dL_totalLength_15 ?_
    exact or_iret E F dL_totalLength_16 (Nat.le_of_eq (Nat.zero_add _)) (Nat.le_of_eq (Nat.zero_add _)) (Or.inl ⟨some (.int a), h1, hk, rfl, ⟨a, rfl, rfl⟩⟩)
  · have e := hl _ _ hc hk
    subst e
    refine ⟨[], ⟨0, 9, 12, 31⟩, [], rfl, (fun z hz => by cases hz), by decide, by decide, cl_L_31, List.mem_of_getElem? (i := 2) rfl, fun q => ?_⟩
    refine or_astore_n E dL_totalLength_12 (by decide) ?_
    refine or_iconst (v := nI 1) E rfl dL_totalLength_13 ?_
    exact or_iret E F dL_totalLength_14 (Nat.le_of_eq (Nat.zero_add _)) (Nat.le_of_eq (Nat.zero_add _)) (Or.inr ⟨3, hc, hk, rfl⟩)
theorem lk_L_80 : ow_lv RL 80 yX10_greatestLength cX10_greatestLength 2 (some .int) 1 := ⟨ow_T_in 1428 (by decide +kernel) (by decide +kernel), ow_T_in 1429 (by decide +kernel) (by decide +kernel), ow_T_in 1430 (by decide +kernel) (by decide +kernel), ow_T_in 1 (by decide +kernel) (by decide +kernel), ow_T_in 1431 (by decide +kernel) (by decide +kernel), ⟨by decide +kernel, by decide +kernel, by decide +kernel⟩⟩
set_option maxRecDepth 100000 in
set_option maxHeartbeats 400000 in
theorem wL_greatestLength {Z : Nat → Nat} {h : ow_H} {x o k mc ms : Nat} {p0 : Int32} {Kc : Nat → Option Value → ow_H → Prop} (hC : ow_Cx Z yX10_greatestLength cX10_greatestLength 2 (some .int) k mc ms [.ref x, .int p0] h Kc) (hx : h.1 x = some (.inl (10, au_k x))) (hr : ∀ r h0, Kc 0 r h0 → ∃ a : Int32, r = some (.int a) ∧ h0.1 o = some (.inr (.long, 1, ol_l))) (hl : ∀ c' h1, 0 < c' → Kc c' none h1 → c' = 3) : ow_Ch Z yL_greatestLength cL_greatestLength 4 (some .int) [(0, 9, 12, 31)] (k + 1) mc ms [.ref x, .int p0, .ref o] h (wK Kc (wI o) [3]) := by
  refine ow_Ch.of rfl (Nat.le_of_ble_eq_true rfl) (fun X E G T9 F => ?_)
  have E : ow_E X RL cL_greatestLength 4 (ow_rm (k + 1) mc ms) := E
  refine or_lv [(0, .ref x), (1, .int p0), (2, .ref o)] rfl ?_
  refine or_aload_n E rfl dL_greatestLength_0 ?_
  refine or_iconst (v := nI 0) E rfl dL_greatestLength_1 ?_
  refine or_aload_n E rfl dL_greatestLength_2 ?_
  refine or_iload_n E rfl dL_greatestLength_3 ?_
  refine or_xVH (st := [.int (nI 0), .ref o]) [.int p0] hC E G T9 lk_L_80 dL_greatestLength_4 hx rfl rfl rfl (Nat.le_refl _) (by decide) ⟨Nat.le_of_eq (Nat.zero_add _), Nat.le_of_eq (Nat.zero_add _)⟩ (Nat.le_of_ble_eq_true rfl) (fun r h1 hk => ?_) (fun c' h1 hc hk => ?_)
  · obtain ⟨a, rfl, ho⟩ := hr _ _ hk
    refine or_i2l E dL_greatestLength_7 ?_
    refine or_last E dL_greatestLength_8 ho rfl rfl (by decide) (by decide) ?_
    refine or_goto 15 E dL_greatestLength_9 rfl ?_
    refine or_iconst (v := nI 0) E rfl dL_greatestLength_15 ?_
    exact or_iret E F dL_greatestLength_16 (Nat.le_of_eq (Nat.zero_add _)) (Nat.le_of_eq (Nat.zero_add _)) (Or.inl ⟨some (.int a), h1, hk, rfl, ⟨a, rfl, rfl⟩⟩)
  · have e := hl _ _ hc hk
    subst e
    refine ⟨[], ⟨0, 9, 12, 31⟩, [], rfl, (fun z hz => by cases hz), by decide, by decide, cl_L_31, List.mem_of_getElem? (i := 2) rfl, fun q => ?_⟩
    refine or_astore_n E dL_greatestLength_12 (by decide) ?_
    refine or_iconst (v := nI 1) E rfl dL_greatestLength_13 ?_
    exact or_iret E F dL_greatestLength_14 (Nat.le_of_eq (Nat.zero_add _)) (Nat.le_of_eq (Nat.zero_add _)) (Or.inr ⟨3, hc, hk, rfl⟩)
theorem lk_L_83 : ow_lv RL 83 yX10_middleLength cX10_middleLength 2 (some .int) 1 := ⟨ow_T_in 1435 (by decide +kernel) (by decide +kernel), ow_T_in 1436 (by decide +kernel) (by decide +kernel), ow_T_in 1437 (by decide +kernel) (by decide +kernel), ow_T_in 1 (by decide +kernel) (by decide +kernel), ow_T_in 1438 (by decide +kernel) (by decide +kernel), ⟨by decide +kernel, by decide +kernel, by decide +kernel⟩⟩
set_option maxRecDepth 100000 in
set_option maxHeartbeats 400000 in
theorem wL_middleLength {Z : Nat → Nat} {h : ow_H} {x o k mc ms : Nat} {p0 : Int32} {Kc : Nat → Option Value → ow_H → Prop} (hC : ow_Cx Z yX10_middleLength cX10_middleLength 2 (some .int) k mc ms [.ref x, .int p0] h Kc) (hx : h.1 x = some (.inl (10, au_k x))) (hr : ∀ r h0, Kc 0 r h0 → ∃ a : Int32, r = some (.int a) ∧ h0.1 o = some (.inr (.long, 1, ol_l))) (hl : ∀ c' h1, 0 < c' → Kc c' none h1 → c' = 3) : ow_Ch Z yL_middleLength cL_middleLength 4 (some .int) [(0, 9, 12, 31)] (k + 1) mc ms [.ref x, .int p0, .ref o] h (wK Kc (wI o) [3]) := by
  refine ow_Ch.of rfl (Nat.le_of_ble_eq_true rfl) (fun X E G T9 F => ?_)
  have E : ow_E X RL cL_middleLength 4 (ow_rm (k + 1) mc ms) := E
  refine or_lv [(0, .ref x), (1, .int p0), (2, .ref o)] rfl ?_
  refine or_aload_n E rfl dL_middleLength_0 ?_
  refine or_iconst (v := nI 0) E rfl dL_middleLength_1 ?_
  refine or_aload_n E rfl dL_middleLength_2 ?_
  refine or_iload_n E rfl dL_middleLength_3 ?_
  refine or_xVH (st := [.int (nI 0), .ref o]) [.int p0] hC E G T9 lk_L_83 dL_middleLength_4 hx rfl rfl rfl (Nat.le_refl _) (by decide) ⟨Nat.le_of_eq (Nat.zero_add _), Nat.le_of_eq (Nat.zero_add _)⟩ (Nat.le_of_ble_eq_true rfl) (fun r h1 hk => ?_) (fun c' h1 hc hk => ?_)
  · obtain ⟨a, rfl, ho⟩ := hr _ _ hk
    refine or_i2l E dL_middleLength_7 ?_
    refine or_last E dL_middleLength_8 ho rfl rfl (by decide) (by decide) ?_
    refine or_goto 15 E dL_middleLength_9 rfl ?_
    refine or_iconst (v := nI 0) E rfl dL_middleLength_15 ?_
    exact or_iret E F dL_middleLength_16 (Nat.le_of_eq (Nat.zero_add _)) (Nat.le_of_eq (Nat.zero_add _)) (Or.inl ⟨some (.int a), h1, hk, rfl, ⟨a, rfl, rfl⟩⟩)
  · have e := hl _ _ hc hk
    subst e
    refine ⟨[], ⟨0, 9, 12, 31⟩, [], rfl, (fun z hz => by cases hz), by decide, by decide, cl_L_31, List.mem_of_getElem? (i := 2) rfl, fun q => ?_⟩
    refine or_astore_n E dL_middleLength_12 (by decide) ?_
    refine or_iconst (v := nI 1) E rfl dL_middleLength_13 ?_
    exact or_iret E F dL_middleLength_14 (Nat.le_of_eq (Nat.zero_add _)) (Nat.le_of_eq (Nat.zero_add _)) (Or.inr ⟨3, hc, hk, rfl⟩)
theorem lk_L_86 : ow_lv RL 86 yX10_reserve cX10_reserve 2 (some .int) 1 := ⟨ow_T_in 1446 (by decide +kernel) (by decide +kernel), ow_T_in 1447 (by decide +kernel) (by decide +kernel), ow_T_in 1448 (by decide +kernel) (by decide +kernel), ow_T_in 1 (by decide +kernel) (by decide +kernel), ow_T_in 1449 (by decide +kernel) (by decide +kernel), ⟨by decide +kernel, by decide +kernel, by decide +kernel⟩⟩
set_option maxRecDepth 100000 in
set_option maxHeartbeats 400000 in
theorem wL_reserve {Z : Nat → Nat} {h : ow_H} {x o k mc ms : Nat} {p0 : Int32} {Kc : Nat → Option Value → ow_H → Prop} (hC : ow_Cx Z yX10_reserve cX10_reserve 2 (some .int) k mc ms [.ref x, .int p0] h Kc) (hx : h.1 x = some (.inl (10, au_k x))) (hr : ∀ r h0, Kc 0 r h0 → ∃ a : Int32, r = some (.int a) ∧ h0.1 o = some (.inr (.long, 1, ol_l))) (hl : ∀ c' h1, 0 < c' → Kc c' none h1 → c' = 3) : ow_Ch Z yL_reserve cL_reserve 4 (some .int) [(0, 9, 12, 31)] (k + 1) mc ms [.ref x, .int p0, .ref o] h (wK Kc (wI o) [3]) := by
  refine ow_Ch.of rfl (Nat.le_of_ble_eq_true rfl) (fun X E G T9 F => ?_)
  have E : ow_E X RL cL_reserve 4 (ow_rm (k + 1) mc ms) := E
  refine or_lv [(0, .ref x), (1, .int p0), (2, .ref o)] rfl ?_
  refine or_aload_n E rfl dL_reserve_0 ?_
  refine or_iconst (v := nI 0) E rfl dL_reserve_1 ?_
  refine or_aload_n E rfl dL_reserve_2 ?_
  refine or_iload_n E rfl dL_reserve_3 ?_
  refine or_xVH (st := [.int (nI 0), .ref o]) [.int p0] hC E G T9 lk_L_86 dL_reserve_4 hx rfl rfl rfl (Nat.le_refl _) (by decide) ⟨Nat.le_of_eq (Nat.zero_add _), Nat.le_of_eq (Nat.zero_add _)⟩ (Nat.le_of_ble_eq_true rfl) (fun r h1 hk => ?_) (fun c' h1 hc hk => ?_)
  · obtain ⟨a, rfl, ho⟩ := hr _ _ hk
    refine or_i2l E dL_reserve_7 ?_
    refine or_last E dL_reserve_8 ho rfl rfl (by decide) (by decide) ?_
    refine or_goto 15 E dL_reserve_9 rfl ?_
    refine or_iconst (v := nI 0) E rfl dL_reserve_15 ?_
    exact or_iret E F dL_reserve_16 (Nat.le_of_eq (Nat.zero_add _)) (Nat.le_of_eq (Nat.zero_add _)) (Or.inl ⟨some (.int a), h1, hk, rfl, ⟨a, rfl, rfl⟩⟩)
  · have e := hl _ _ hc hk
    subst e
    refine ⟨[], ⟨0, 9, 12, 31⟩, [], rfl, (fun z hz => by cases hz), by decide, by decide, cl_L_31, List.mem_of_getElem? (i := 2) rfl, fun q => ?_⟩
    refine or_astore_n E dL_reserve_12 (by decide) ?_
    refine or_iconst (v := nI 1) E rfl dL_reserve_13 ?_
    exact or_iret E F dL_reserve_14 (Nat.le_of_eq (Nat.zero_add _)) (Nat.le_of_eq (Nat.zero_add _)) (Or.inr ⟨3, hc, hk, rfl⟩)
theorem lk_L_89 : ow_lv RL 89 yX10_stateOf cX10_stateOf 2 (some .int) 1 := ⟨ow_T_in 1453 (by decide +kernel) (by decide +kernel), ow_T_in 1454 (by decide +kernel) (by decide +kernel), ow_T_in 1455 (by decide +kernel) (by decide +kernel), ow_T_in 1 (by decide +kernel) (by decide +kernel), ow_T_in 1456 (by decide +kernel) (by decide +kernel), ⟨by decide +kernel, by decide +kernel, by decide +kernel⟩⟩
set_option maxRecDepth 100000 in
set_option maxHeartbeats 400000 in
theorem wL_stateOf {Z : Nat → Nat} {h : ow_H} {x o k mc ms : Nat} {p0 : Int32} {Kc : Nat → Option Value → ow_H → Prop} (hC : ow_Cx Z yX10_stateOf cX10_stateOf 2 (some .int) k mc ms [.ref x, .int p0] h Kc) (hx : h.1 x = some (.inl (10, au_k x))) (hr : ∀ r h0, Kc 0 r h0 → ∃ a : Int32, r = some (.int a) ∧ h0.1 o = some (.inr (.long, 1, ol_l))) (hl : ∀ c' h1, 0 < c' → Kc c' none h1 → c' = 3) : ow_Ch Z yL_stateOf cL_stateOf 4 (some .int) [(0, 9, 12, 31)] (k + 1) mc ms [.ref x, .int p0, .ref o] h (wK Kc (wI o) [3]) := by
  refine ow_Ch.of rfl (Nat.le_of_ble_eq_true rfl) (fun X E G T9 F => ?_)
  have E : ow_E X RL cL_stateOf 4 (ow_rm (k + 1) mc ms) := E
  refine or_lv [(0, .ref x), (1, .int p0), (2, .ref o)] rfl ?_
  refine or_aload_n E rfl dL_stateOf_0 ?_
  refine or_iconst (v := nI 0) E rfl dL_stateOf_1 ?_
  refine or_aload_n E rfl dL_stateOf_2 ?_
  refine or_iload_n E rfl dL_stateOf_3 ?_
  refine or_xVH (st := [.int (nI 0), .ref o]) [.int p0] hC E G T9 lk_L_89 dL_stateOf_4 hx rfl rfl rfl (Nat.le_refl _) (by decide) ⟨Nat.le_of_eq (Nat.zero_add _), Nat.le_of_eq (Nat.zero_add _)⟩ (Nat.le_of_ble_eq_true rfl) (fun r h1 hk => ?_) (fun c' h1 hc hk => ?_)
  · obtain ⟨a, rfl, ho⟩ := hr _ _ hk
    refine or_i2l E dL_stateOf_7 ?_
    refine or_last E dL_stateOf_8 ho rfl rfl (by decide) (by decide) ?_
    refine or_goto 15 E dL_stateOf_9 rfl ?_
    refine or_iconst (v := nI 0) E rfl dL_stateOf_15 ?_
    exact or_iret E F dL_stateOf_16 (Nat.le_of_eq (Nat.zero_add _)) (Nat.le_of_eq (Nat.zero_add _)) (Or.inl ⟨some (.int a), h1, hk, rfl, ⟨a, rfl, rfl⟩⟩)
  · have e := hl _ _ hc hk
    subst e
    refine ⟨[], ⟨0, 9, 12, 31⟩, [], rfl, (fun z hz => by cases hz), by decide, by decide, cl_L_31, List.mem_of_getElem? (i := 2) rfl, fun q => ?_⟩
    refine or_astore_n E dL_stateOf_12 (by decide) ?_
    refine or_iconst (v := nI 1) E rfl dL_stateOf_13 ?_
    exact or_iret E F dL_stateOf_14 (Nat.le_of_eq (Nat.zero_add _)) (Nat.le_of_eq (Nat.zero_add _)) (Or.inr ⟨3, hc, hk, rfl⟩)
theorem lk_L_92 : ow_lv RL 92 yX10_returns cX10_returns 2 (some .int) 1 := ⟨ow_T_in 1460 (by decide +kernel) (by decide +kernel), ow_T_in 1461 (by decide +kernel) (by decide +kernel), ow_T_in 1462 (by decide +kernel) (by decide +kernel), ow_T_in 1 (by decide +kernel) (by decide +kernel), ow_T_in 1463 (by decide +kernel) (by decide +kernel), ⟨by decide +kernel, by decide +kernel, by decide +kernel⟩⟩
set_option maxRecDepth 100000 in
set_option maxHeartbeats 400000 in
theorem wL_returns {Z : Nat → Nat} {h : ow_H} {x o k mc ms : Nat} {p0 : Int32} {Kc : Nat → Option Value → ow_H → Prop} (hC : ow_Cx Z yX10_returns cX10_returns 2 (some .int) k mc ms [.ref x, .int p0] h Kc) (hx : h.1 x = some (.inl (10, au_k x))) (hr : ∀ r h0, Kc 0 r h0 → ∃ a : Int32, r = some (.int a) ∧ h0.1 o = some (.inr (.long, 1, ol_l))) (hl : ∀ c' h1, 0 < c' → Kc c' none h1 → c' = 3) : ow_Ch Z yL_returns cL_returns 4 (some .int) [(0, 9, 12, 31)] (k + 1) mc ms [.ref x, .int p0, .ref o] h (wK Kc (wI o) [3]) := by
  refine ow_Ch.of rfl (Nat.le_of_ble_eq_true rfl) (fun X E G T9 F => ?_)
  have E : ow_E X RL cL_returns 4 (ow_rm (k + 1) mc ms) := E
  refine or_lv [(0, .ref x), (1, .int p0), (2, .ref o)] rfl ?_
  refine or_aload_n E rfl dL_returns_0 ?_
  refine or_iconst (v := nI 0) E rfl dL_returns_1 ?_
  refine or_aload_n E rfl dL_returns_2 ?_
  refine or_iload_n E rfl dL_returns_3 ?_
  refine or_xVH (st := [.int (nI 0), .ref o]) [.int p0] hC E G T9 lk_L_92 dL_returns_4 hx rfl rfl rfl (Nat.le_refl _) (by decide) ⟨Nat.le_of_eq (Nat.zero_add _), Nat.le_of_eq (Nat.zero_add _)⟩ (Nat.le_of_ble_eq_true rfl) (fun r h1 hk => ?_) (fun c' h1 hc hk => ?_)
  · obtain ⟨a, rfl, ho⟩ := hr _ _ hk
    refine or_i2l E dL_returns_7 ?_
    refine or_last E dL_returns_8 ho rfl rfl (by decide) (by decide) ?_
    refine or_goto 15 E dL_returns_9 rfl ?_
    refine or_iconst (v := nI 0) E rfl dL_returns_15 ?_
    exact or_iret E F dL_returns_16 (Nat.le_of_eq (Nat.zero_add _)) (Nat.le_of_eq (Nat.zero_add _)) (Or.inl ⟨some (.int a), h1, hk, rfl, ⟨a, rfl, rfl⟩⟩)
  · have e := hl _ _ hc hk
    subst e
    refine ⟨[], ⟨0, 9, 12, 31⟩, [], rfl, (fun z hz => by cases hz), by decide, by decide, cl_L_31, List.mem_of_getElem? (i := 2) rfl, fun q => ?_⟩
    refine or_astore_n E dL_returns_12 (by decide) ?_
    refine or_iconst (v := nI 1) E rfl dL_returns_13 ?_
    exact or_iret E F dL_returns_14 (Nat.le_of_eq (Nat.zero_add _)) (Nat.le_of_eq (Nat.zero_add _)) (Or.inr ⟨3, hc, hk, rfl⟩)
theorem lk_L_95 : ow_lv RL 95 yX10_buyerOf cX10_buyerOf 2 (some .int) 1 := ⟨ow_T_in 1467 (by decide +kernel) (by decide +kernel), ow_T_in 1468 (by decide +kernel) (by decide +kernel), ow_T_in 1469 (by decide +kernel) (by decide +kernel), ow_T_in 1 (by decide +kernel) (by decide +kernel), ow_T_in 1470 (by decide +kernel) (by decide +kernel), ⟨by decide +kernel, by decide +kernel, by decide +kernel⟩⟩
set_option maxRecDepth 100000 in
set_option maxHeartbeats 400000 in
theorem wL_buyerOf {Z : Nat → Nat} {h : ow_H} {x o k mc ms : Nat} {p0 : Int32} {Kc : Nat → Option Value → ow_H → Prop} (hC : ow_Cx Z yX10_buyerOf cX10_buyerOf 2 (some .int) k mc ms [.ref x, .int p0] h Kc) (hx : h.1 x = some (.inl (10, au_k x))) (hr : ∀ r h0, Kc 0 r h0 → ∃ a : Int32, r = some (.int a) ∧ h0.1 o = some (.inr (.long, 1, ol_l))) (hl : ∀ c' h1, 0 < c' → Kc c' none h1 → c' = 3) : ow_Ch Z yL_buyerOf cL_buyerOf 4 (some .int) [(0, 9, 12, 31)] (k + 1) mc ms [.ref x, .int p0, .ref o] h (wK Kc (wI o) [3]) := by
  refine ow_Ch.of rfl (Nat.le_of_ble_eq_true rfl) (fun X E G T9 F => ?_)
  have E : ow_E X RL cL_buyerOf 4 (ow_rm (k + 1) mc ms) := E
  refine or_lv [(0, .ref x), (1, .int p0), (2, .ref o)] rfl ?_
  refine or_aload_n E rfl dL_buyerOf_0 ?_
  refine or_iconst (v := nI 0) E rfl dL_buyerOf_1 ?_
  refine or_aload_n E rfl dL_buyerOf_2 ?_
  refine or_iload_n E rfl dL_buyerOf_3 ?_
  refine or_xVH (st := [.int (nI 0), .ref o]) [.int p0] hC E G T9 lk_L_95 dL_buyerOf_4 hx rfl rfl rfl (Nat.le_refl _) (by decide) ⟨Nat.le_of_eq (Nat.zero_add _), Nat.le_of_eq (Nat.zero_add _)⟩ (Nat.le_of_ble_eq_true rfl) (fun r h1 hk => ?_) (fun c' h1 hc hk => ?_)
  · obtain ⟨a, rfl, ho⟩ := hr _ _ hk
    refine or_i2l E dL_buyerOf_7 ?_
    refine or_last E dL_buyerOf_8 ho rfl rfl (by decide) (by decide) ?_
    refine or_goto 15 E dL_buyerOf_9 rfl ?_
    refine or_iconst (v := nI 0) E rfl dL_buyerOf_15 ?_
    exact or_iret E F dL_buyerOf_16 (Nat.le_of_eq (Nat.zero_add _)) (Nat.le_of_eq (Nat.zero_add _)) (Or.inl ⟨some (.int a), h1, hk, rfl, ⟨a, rfl, rfl⟩⟩)
  · have e := hl _ _ hc hk
    subst e
    refine ⟨[], ⟨0, 9, 12, 31⟩, [], rfl, (fun z hz => by cases hz), by decide, by decide, cl_L_31, List.mem_of_getElem? (i := 2) rfl, fun q => ?_⟩
    refine or_astore_n E dL_buyerOf_12 (by decide) ?_
    refine or_iconst (v := nI 1) E rfl dL_buyerOf_13 ?_
    exact or_iret E F dL_buyerOf_14 (Nat.le_of_eq (Nat.zero_add _)) (Nat.le_of_eq (Nat.zero_add _)) (Or.inr ⟨3, hc, hk, rfl⟩)
theorem lk_L_98 : ow_lv RL 98 yX10_priceOf cX10_priceOf 2 (some .int) 1 := ⟨ow_T_in 1474 (by decide +kernel) (by decide +kernel), ow_T_in 1475 (by decide +kernel) (by decide +kernel), ow_T_in 1476 (by decide +kernel) (by decide +kernel), ow_T_in 1 (by decide +kernel) (by decide +kernel), ow_T_in 1477 (by decide +kernel) (by decide +kernel), ⟨by decide +kernel, by decide +kernel, by decide +kernel⟩⟩
set_option maxRecDepth 100000 in
set_option maxHeartbeats 400000 in
theorem wL_priceOf {Z : Nat → Nat} {h : ow_H} {x o k mc ms : Nat} {p0 : Int32} {Kc : Nat → Option Value → ow_H → Prop} (hC : ow_Cx Z yX10_priceOf cX10_priceOf 2 (some .int) k mc ms [.ref x, .int p0] h Kc) (hx : h.1 x = some (.inl (10, au_k x))) (hr : ∀ r h0, Kc 0 r h0 → ∃ a : Int32, r = some (.int a) ∧ h0.1 o = some (.inr (.long, 1, ol_l))) (hl : ∀ c' h1, 0 < c' → Kc c' none h1 → c' = 3) : ow_Ch Z yL_priceOf cL_priceOf 4 (some .int) [(0, 9, 12, 31)] (k + 1) mc ms [.ref x, .int p0, .ref o] h (wK Kc (wI o) [3]) := by
  refine ow_Ch.of rfl (Nat.le_of_ble_eq_true rfl) (fun X E G T9 F => ?_)
  have E : ow_E X RL cL_priceOf 4 (ow_rm (k + 1) mc ms) := E
  refine or_lv [(0, .ref x), (1, .int p0), (2, .ref o)] rfl ?_
  refine or_aload_n E rfl dL_priceOf_0 ?_
  refine or_iconst (v := nI 0) E rfl dL_priceOf_1 ?_
  refine or_aload_n E rfl dL_priceOf_2 ?_
  refine or_iload_n E rfl dL_priceOf_3 ?_
  refine or_xVH (st := [.int (nI 0), .ref o]) [.int p0] hC E G T9 lk_L_98 dL_priceOf_4 hx rfl rfl rfl (Nat.le_refl _) (by decide) ⟨Nat.le_of_eq (Nat.zero_add _), Nat.le_of_eq (Nat.zero_add _)⟩ (Nat.le_of_ble_eq_true rfl) (fun r h1 hk => ?_) (fun c' h1 hc hk => ?_)
  · obtain ⟨a, rfl, ho⟩ := hr _ _ hk
    refine or_i2l E dL_priceOf_7 ?_
    refine or_last E dL_priceOf_8 ho rfl rfl (by decide) (by decide) ?_
    refine or_goto 15 E dL_priceOf_9 rfl ?_
    refine or_iconst (v := nI 0) E rfl dL_priceOf_15 ?_
    exact or_iret E F dL_priceOf_16 (Nat.le_of_eq (Nat.zero_add _)) (Nat.le_of_eq (Nat.zero_add _)) (Or.inl ⟨some (.int a), h1, hk, rfl, ⟨a, rfl, rfl⟩⟩)
  · have e := hl _ _ hc hk
    subst e
    refine ⟨[], ⟨0, 9, 12, 31⟩, [], rfl, (fun z hz => by cases hz), by decide, by decide, cl_L_31, List.mem_of_getElem? (i := 2) rfl, fun q => ?_⟩
    refine or_astore_n E dL_priceOf_12 (by decide) ?_
    refine or_iconst (v := nI 1) E rfl dL_priceOf_13 ?_
    exact or_iret E F dL_priceOf_14 (Nat.le_of_eq (Nat.zero_add _)) (Nat.le_of_eq (Nat.zero_add _)) (Or.inr ⟨3, hc, hk, rfl⟩)
theorem lk_L_101 : ow_lv RL 101 yX10_pricePerLength cX10_pricePerLength 3 (some .float) 1 := ⟨ow_T_in 1481 (by decide +kernel) (by decide +kernel), ow_T_in 1482 (by decide +kernel) (by decide +kernel), ow_T_in 1483 (by decide +kernel) (by decide +kernel), ow_T_in 1 (by decide +kernel) (by decide +kernel), ow_T_in 1484 (by decide +kernel) (by decide +kernel), ⟨by decide +kernel, by decide +kernel, by decide +kernel⟩⟩
set_option maxRecDepth 100000 in
set_option maxHeartbeats 400000 in
theorem wL_pricePerLength {Z : Nat → Nat} {h : ow_H} {x o k mc ms : Nat} {p0 : Int32} {Kc : Nat → Option Value → ow_H → Prop} (hC : ow_Cx Z yX10_pricePerLength cX10_pricePerLength 3 (some .float) k mc ms [.ref x, .int p0] h Kc) (hx : h.1 x = some (.inl (10, au_k x))) (hr : ∀ r h0, Kc 0 r h0 → ∃ a : UInt32, r = some (.float a) ∧ vf_n64 (FP.f2d a) ∧ h0.1 o = some (.inr (.double, 1, ol_l))) (hl : ∀ c' h1, 0 < c' → Kc c' none h1 → c' = 3) : ow_Ch Z yL_pricePerLength cL_pricePerLength 4 (some .int) [(0, 9, 12, 31)] (k + 1) mc ms [.ref x, .int p0, .ref o] h (wK Kc (wF o) [3]) := by
  refine ow_Ch.of rfl (Nat.le_of_ble_eq_true rfl) (fun X E G T9 F => ?_)
  have E : ow_E X RL cL_pricePerLength 4 (ow_rm (k + 1) mc ms) := E
  refine or_lv [(0, .ref x), (1, .int p0), (2, .ref o)] rfl ?_
  refine or_aload_n E rfl dL_pricePerLength_0 ?_
  refine or_iconst (v := nI 0) E rfl dL_pricePerLength_1 ?_
  refine or_aload_n E rfl dL_pricePerLength_2 ?_
  refine or_iload_n E rfl dL_pricePerLength_3 ?_
  refine or_xVH (st := [.int (nI 0), .ref o]) [.int p0] hC E G T9 lk_L_101 dL_pricePerLength_4 hx rfl rfl rfl (Nat.le_refl _) (by decide) ⟨Nat.le_of_eq (Nat.zero_add _), Nat.le_of_eq (Nat.zero_add _)⟩ (Nat.le_of_ble_eq_true rfl) (fun r h1 hk => ?_) (fun c' h1 hc hk => ?_)
  · obtain ⟨a, rfl, hn, ho⟩ := hr _ _ hk
    refine or_f2d E hn dL_pricePerLength_7 ?_
    refine or_dast E dL_pricePerLength_8 ho rfl rfl (by decide) (by decide) ?_
    refine or_goto 15 E dL_pricePerLength_9 rfl ?_
    refine or_iconst (v := nI 0) E rfl dL_pricePerLength_15 ?_
    exact or_iret E F dL_pricePerLength_16 (Nat.le_of_eq (Nat.zero_add _)) (Nat.le_of_eq (Nat.zero_add _)) (Or.inl ⟨some (.float a), h1, hk, rfl, ⟨a, rfl, rfl⟩⟩)
  · have e := hl _ _ hc hk
    subst e
    refine ⟨[], ⟨0, 9, 12, 31⟩, [], rfl, (fun z hz => by cases hz), by decide, by decide, cl_L_31, List.mem_of_getElem? (i := 2) rfl, fun q => ?_⟩
    refine or_astore_n E dL_pricePerLength_12 (by decide) ?_
    refine or_iconst (v := nI 1) E rfl dL_pricePerLength_13 ?_
    exact or_iret E F dL_pricePerLength_14 (Nat.le_of_eq (Nat.zero_add _)) (Nat.le_of_eq (Nat.zero_add _)) (Or.inr ⟨3, hc, hk, rfl⟩)
theorem lk_L_105 : ow_lv RL 105 yX10_purse cX10_purse 2 (some .int) 1 := ⟨ow_T_in 1488 (by decide +kernel) (by decide +kernel), ow_T_in 1489 (by decide +kernel) (by decide +kernel), ow_T_in 1490 (by decide +kernel) (by decide +kernel), ow_T_in 1 (by decide +kernel) (by decide +kernel), ow_T_in 1491 (by decide +kernel) (by decide +kernel), ⟨by decide +kernel, by decide +kernel, by decide +kernel⟩⟩
set_option maxRecDepth 100000 in
set_option maxHeartbeats 400000 in
theorem wL_purse {Z : Nat → Nat} {h : ow_H} {x o k mc ms : Nat} {p0 : Int32} {Kc : Nat → Option Value → ow_H → Prop} (hC : ow_Cx Z yX10_purse cX10_purse 2 (some .int) k mc ms [.ref x, .int p0] h Kc) (hx : h.1 x = some (.inl (10, au_k x))) (hr : ∀ r h0, Kc 0 r h0 → ∃ a : Int32, r = some (.int a) ∧ h0.1 o = some (.inr (.long, 1, ol_l))) (hl : ∀ c' h1, 0 < c' → Kc c' none h1 → c' = 3) : ow_Ch Z yL_purse cL_purse 4 (some .int) [(0, 9, 12, 31)] (k + 1) mc ms [.ref x, .int p0, .ref o] h (wK Kc (wI o) [3]) := by
  refine ow_Ch.of rfl (Nat.le_of_ble_eq_true rfl) (fun X E G T9 F => ?_)
  have E : ow_E X RL cL_purse 4 (ow_rm (k + 1) mc ms) := E
  refine or_lv [(0, .ref x), (1, .int p0), (2, .ref o)] rfl ?_
  refine or_aload_n E rfl dL_purse_0 ?_
  refine or_iconst (v := nI 0) E rfl dL_purse_1 ?_
  refine or_aload_n E rfl dL_purse_2 ?_
  refine or_iload_n E rfl dL_purse_3 ?_
  refine or_xVH (st := [.int (nI 0), .ref o]) [.int p0] hC E G T9 lk_L_105 dL_purse_4 hx rfl rfl rfl (Nat.le_refl _) (by decide) ⟨Nat.le_of_eq (Nat.zero_add _), Nat.le_of_eq (Nat.zero_add _)⟩ (Nat.le_of_ble_eq_true rfl) (fun r h1 hk => ?_) (fun c' h1 hc hk => ?_)
  · obtain ⟨a, rfl, ho⟩ := hr _ _ hk
    refine or_i2l E dL_purse_7 ?_
    refine or_last E dL_purse_8 ho rfl rfl (by decide) (by decide) ?_
    refine or_goto 15 E dL_purse_9 rfl ?_
    refine or_iconst (v := nI 0) E rfl dL_purse_15 ?_
    exact or_iret E F dL_purse_16 (Nat.le_of_eq (Nat.zero_add _)) (Nat.le_of_eq (Nat.zero_add _)) (Or.inl ⟨some (.int a), h1, hk, rfl, ⟨a, rfl, rfl⟩⟩)
  · have e := hl _ _ hc hk
    subst e
    refine ⟨[], ⟨0, 9, 12, 31⟩, [], rfl, (fun z hz => by cases hz), by decide, by decide, cl_L_31, List.mem_of_getElem? (i := 2) rfl, fun q => ?_⟩
    refine or_astore_n E dL_purse_12 (by decide) ?_
    refine or_iconst (v := nI 1) E rfl dL_purse_13 ?_
    exact or_iret E F dL_purse_14 (Nat.le_of_eq (Nat.zero_add _)) (Nat.le_of_eq (Nat.zero_add _)) (Or.inr ⟨3, hc, hk, rfl⟩)
theorem lk_L_108 : ow_lv RL 108 yX10_style cX10_style 2 (some .int) 1 := ⟨ow_T_in 1499 (by decide +kernel) (by decide +kernel), ow_T_in 1500 (by decide +kernel) (by decide +kernel), ow_T_in 1501 (by decide +kernel) (by decide +kernel), ow_T_in 1 (by decide +kernel) (by decide +kernel), ow_T_in 1502 (by decide +kernel) (by decide +kernel), ⟨by decide +kernel, by decide +kernel, by decide +kernel⟩⟩
set_option maxRecDepth 100000 in
set_option maxHeartbeats 400000 in
theorem wL_style {Z : Nat → Nat} {h : ow_H} {x o k mc ms : Nat} {p0 : Int32} {Kc : Nat → Option Value → ow_H → Prop} (hC : ow_Cx Z yX10_style cX10_style 2 (some .int) k mc ms [.ref x, .int p0] h Kc) (hx : h.1 x = some (.inl (10, au_k x))) (hr : ∀ r h0, Kc 0 r h0 → ∃ a : Int32, r = some (.int a) ∧ h0.1 o = some (.inr (.long, 1, ol_l))) (hl : ∀ c' h1, 0 < c' → Kc c' none h1 → c' = 3) : ow_Ch Z yL_style cL_style 4 (some .int) [(0, 9, 12, 31)] (k + 1) mc ms [.ref x, .int p0, .ref o] h (wK Kc (wI o) [3]) := by
  refine ow_Ch.of rfl (Nat.le_of_ble_eq_true rfl) (fun X E G T9 F => ?_)
  have E : ow_E X RL cL_style 4 (ow_rm (k + 1) mc ms) := E
  refine or_lv [(0, .ref x), (1, .int p0), (2, .ref o)] rfl ?_
  refine or_aload_n E rfl dL_style_0 ?_
  refine or_iconst (v := nI 0) E rfl dL_style_1 ?_
  refine or_aload_n E rfl dL_style_2 ?_
  refine or_iload_n E rfl dL_style_3 ?_
  refine or_xVH (st := [.int (nI 0), .ref o]) [.int p0] hC E G T9 lk_L_108 dL_style_4 hx rfl rfl rfl (Nat.le_refl _) (by decide) ⟨Nat.le_of_eq (Nat.zero_add _), Nat.le_of_eq (Nat.zero_add _)⟩ (Nat.le_of_ble_eq_true rfl) (fun r h1 hk => ?_) (fun c' h1 hc hk => ?_)
  · obtain ⟨a, rfl, ho⟩ := hr _ _ hk
    refine or_i2l E dL_style_7 ?_
    refine or_last E dL_style_8 ho rfl rfl (by decide) (by decide) ?_
    refine or_goto 15 E dL_style_9 rfl ?_
    refine or_iconst (v := nI 0) E rfl dL_style_15 ?_
    exact or_iret E F dL_style_16 (Nat.le_of_eq (Nat.zero_add _)) (Nat.le_of_eq (Nat.zero_add _)) (Or.inl ⟨some (.int a), h1, hk, rfl, ⟨a, rfl, rfl⟩⟩)
  · have e := hl _ _ hc hk
    subst e
    refine ⟨[], ⟨0, 9, 12, 31⟩, [], rfl, (fun z hz => by cases hz), by decide, by decide, cl_L_31, List.mem_of_getElem? (i := 2) rfl, fun q => ?_⟩
    refine or_astore_n E dL_style_12 (by decide) ?_
    refine or_iconst (v := nI 1) E rfl dL_style_13 ?_
    exact or_iret E F dL_style_14 (Nat.le_of_eq (Nat.zero_add _)) (Nat.le_of_eq (Nat.zero_add _)) (Or.inr ⟨3, hc, hk, rfl⟩)
theorem lk_L_111 : ow_lv RL 111 yX10_factor cX10_factor 2 (some .int) 1 := ⟨ow_T_in 1506 (by decide +kernel) (by decide +kernel), ow_T_in 1507 (by decide +kernel) (by decide +kernel), ow_T_in 1508 (by decide +kernel) (by decide +kernel), ow_T_in 1 (by decide +kernel) (by decide +kernel), ow_T_in 1509 (by decide +kernel) (by decide +kernel), ⟨by decide +kernel, by decide +kernel, by decide +kernel⟩⟩
set_option maxRecDepth 100000 in
set_option maxHeartbeats 400000 in
theorem wL_factor {Z : Nat → Nat} {h : ow_H} {x o k mc ms : Nat} {p0 : Int32} {Kc : Nat → Option Value → ow_H → Prop} (hC : ow_Cx Z yX10_factor cX10_factor 2 (some .int) k mc ms [.ref x, .int p0] h Kc) (hx : h.1 x = some (.inl (10, au_k x))) (hr : ∀ r h0, Kc 0 r h0 → ∃ a : Int32, r = some (.int a) ∧ h0.1 o = some (.inr (.long, 1, ol_l))) (hl : ∀ c' h1, 0 < c' → Kc c' none h1 → c' = 3) : ow_Ch Z yL_factor cL_factor 4 (some .int) [(0, 9, 12, 31)] (k + 1) mc ms [.ref x, .int p0, .ref o] h (wK Kc (wI o) [3]) := by
  refine ow_Ch.of rfl (Nat.le_of_ble_eq_true rfl) (fun X E G T9 F => ?_)
  have E : ow_E X RL cL_factor 4 (ow_rm (k + 1) mc ms) := E
  refine or_lv [(0, .ref x), (1, .int p0), (2, .ref o)] rfl ?_
  refine or_aload_n E rfl dL_factor_0 ?_
  refine or_iconst (v := nI 0) E rfl dL_factor_1 ?_
  refine or_aload_n E rfl dL_factor_2 ?_
  refine or_iload_n E rfl dL_factor_3 ?_
  refine or_xVH (st := [.int (nI 0), .ref o]) [.int p0] hC E G T9 lk_L_111 dL_factor_4 hx rfl rfl rfl (Nat.le_refl _) (by decide) ⟨Nat.le_of_eq (Nat.zero_add _), Nat.le_of_eq (Nat.zero_add _)⟩ (Nat.le_of_ble_eq_true rfl) (fun r h1 hk => ?_) (fun c' h1 hc hk => ?_)
  · obtain ⟨a, rfl, ho⟩ := hr _ _ hk
    refine or_i2l E dL_factor_7 ?_
    refine or_last E dL_factor_8 ho rfl rfl (by decide) (by decide) ?_
    refine or_goto 15 E dL_factor_9 rfl ?_
    refine or_iconst (v := nI 0) E rfl dL_factor_15 ?_
    exact or_iret E F dL_factor_16 (Nat.le_of_eq (Nat.zero_add _)) (Nat.le_of_eq (Nat.zero_add _)) (Or.inl ⟨some (.int a), h1, hk, rfl, ⟨a, rfl, rfl⟩⟩)
  · have e := hl _ _ hc hk
    subst e
    refine ⟨[], ⟨0, 9, 12, 31⟩, [], rfl, (fun z hz => by cases hz), by decide, by decide, cl_L_31, List.mem_of_getElem? (i := 2) rfl, fun q => ?_⟩
    refine or_astore_n E dL_factor_12 (by decide) ?_
    refine or_iconst (v := nI 1) E rfl dL_factor_13 ?_
    exact or_iret E F dL_factor_14 (Nat.le_of_eq (Nat.zero_add _)) (Nat.le_of_eq (Nat.zero_add _)) (Or.inr ⟨3, hc, hk, rfl⟩)
theorem lk_L_114 : ow_lv RL 114 yX10_bought cX10_bought 2 (some .int) 1 := ⟨ow_T_in 1513 (by decide +kernel) (by decide +kernel), ow_T_in 1514 (by decide +kernel) (by decide +kernel), ow_T_in 1515 (by decide +kernel) (by decide +kernel), ow_T_in 1 (by decide +kernel) (by decide +kernel), ow_T_in 1516 (by decide +kernel) (by decide +kernel), ⟨by decide +kernel, by decide +kernel, by decide +kernel⟩⟩
set_option maxRecDepth 100000 in
set_option maxHeartbeats 400000 in
theorem wL_bought {Z : Nat → Nat} {h : ow_H} {x o k mc ms : Nat} {p0 : Int32} {Kc : Nat → Option Value → ow_H → Prop} (hC : ow_Cx Z yX10_bought cX10_bought 2 (some .int) k mc ms [.ref x, .int p0] h Kc) (hx : h.1 x = some (.inl (10, au_k x))) (hr : ∀ r h0, Kc 0 r h0 → ∃ a : Int32, r = some (.int a) ∧ h0.1 o = some (.inr (.long, 1, ol_l))) (hl : ∀ c' h1, 0 < c' → Kc c' none h1 → c' = 3) : ow_Ch Z yL_bought cL_bought 4 (some .int) [(0, 9, 12, 31)] (k + 1) mc ms [.ref x, .int p0, .ref o] h (wK Kc (wI o) [3]) := by
  refine ow_Ch.of rfl (Nat.le_of_ble_eq_true rfl) (fun X E G T9 F => ?_)
  have E : ow_E X RL cL_bought 4 (ow_rm (k + 1) mc ms) := E
  refine or_lv [(0, .ref x), (1, .int p0), (2, .ref o)] rfl ?_
  refine or_aload_n E rfl dL_bought_0 ?_
  refine or_iconst (v := nI 0) E rfl dL_bought_1 ?_
  refine or_aload_n E rfl dL_bought_2 ?_
  refine or_iload_n E rfl dL_bought_3 ?_
  refine or_xVH (st := [.int (nI 0), .ref o]) [.int p0] hC E G T9 lk_L_114 dL_bought_4 hx rfl rfl rfl (Nat.le_refl _) (by decide) ⟨Nat.le_of_eq (Nat.zero_add _), Nat.le_of_eq (Nat.zero_add _)⟩ (Nat.le_of_ble_eq_true rfl) (fun r h1 hk => ?_) (fun c' h1 hc hk => ?_)
  · obtain ⟨a, rfl, ho⟩ := hr _ _ hk
    refine or_i2l E dL_bought_7 ?_
    refine or_last E dL_bought_8 ho rfl rfl (by decide) (by decide) ?_
    refine or_goto 15 E dL_bought_9 rfl ?_
    refine or_iconst (v := nI 0) E rfl dL_bought_15 ?_
    exact or_iret E F dL_bought_16 (Nat.le_of_eq (Nat.zero_add _)) (Nat.le_of_eq (Nat.zero_add _)) (Or.inl ⟨some (.int a), h1, hk, rfl, ⟨a, rfl, rfl⟩⟩)
  · have e := hl _ _ hc hk
    subst e
    refine ⟨[], ⟨0, 9, 12, 31⟩, [], rfl, (fun z hz => by cases hz), by decide, by decide, cl_L_31, List.mem_of_getElem? (i := 2) rfl, fun q => ?_⟩
    refine or_astore_n E dL_bought_12 (by decide) ?_
    refine or_iconst (v := nI 1) E rfl dL_bought_13 ?_
    exact or_iret E F dL_bought_14 (Nat.le_of_eq (Nat.zero_add _)) (Nat.le_of_eq (Nat.zero_add _)) (Or.inr ⟨3, hc, hk, rfl⟩)
theorem lk_L_117 : ow_lv RL 117 yX10_nods cX10_nods 2 (some .int) 1 := ⟨ow_T_in 1520 (by decide +kernel) (by decide +kernel), ow_T_in 1521 (by decide +kernel) (by decide +kernel), ow_T_in 1522 (by decide +kernel) (by decide +kernel), ow_T_in 1 (by decide +kernel) (by decide +kernel), ow_T_in 1523 (by decide +kernel) (by decide +kernel), ⟨by decide +kernel, by decide +kernel, by decide +kernel⟩⟩
set_option maxRecDepth 100000 in
set_option maxHeartbeats 400000 in
theorem wL_nods {Z : Nat → Nat} {h : ow_H} {x o k mc ms : Nat} {p0 : Int32} {Kc : Nat → Option Value → ow_H → Prop} (hC : ow_Cx Z yX10_nods cX10_nods 2 (some .int) k mc ms [.ref x, .int p0] h Kc) (hx : h.1 x = some (.inl (10, au_k x))) (hr : ∀ r h0, Kc 0 r h0 → ∃ a : Int32, r = some (.int a) ∧ h0.1 o = some (.inr (.long, 1, ol_l))) (hl : ∀ c' h1, 0 < c' → Kc c' none h1 → c' = 3) : ow_Ch Z yL_nods cL_nods 4 (some .int) [(0, 9, 12, 31)] (k + 1) mc ms [.ref x, .int p0, .ref o] h (wK Kc (wI o) [3]) := by
  refine ow_Ch.of rfl (Nat.le_of_ble_eq_true rfl) (fun X E G T9 F => ?_)
  have E : ow_E X RL cL_nods 4 (ow_rm (k + 1) mc ms) := E
  refine or_lv [(0, .ref x), (1, .int p0), (2, .ref o)] rfl ?_
  refine or_aload_n E rfl dL_nods_0 ?_
  refine or_iconst (v := nI 0) E rfl dL_nods_1 ?_
  refine or_aload_n E rfl dL_nods_2 ?_
  refine or_iload_n E rfl dL_nods_3 ?_
  refine or_xVH (st := [.int (nI 0), .ref o]) [.int p0] hC E G T9 lk_L_117 dL_nods_4 hx rfl rfl rfl (Nat.le_refl _) (by decide) ⟨Nat.le_of_eq (Nat.zero_add _), Nat.le_of_eq (Nat.zero_add _)⟩ (Nat.le_of_ble_eq_true rfl) (fun r h1 hk => ?_) (fun c' h1 hc hk => ?_)
  · obtain ⟨a, rfl, ho⟩ := hr _ _ hk
    refine or_i2l E dL_nods_7 ?_
    refine or_last E dL_nods_8 ho rfl rfl (by decide) (by decide) ?_
    refine or_goto 15 E dL_nods_9 rfl ?_
    refine or_iconst (v := nI 0) E rfl dL_nods_15 ?_
    exact or_iret E F dL_nods_16 (Nat.le_of_eq (Nat.zero_add _)) (Nat.le_of_eq (Nat.zero_add _)) (Or.inl ⟨some (.int a), h1, hk, rfl, ⟨a, rfl, rfl⟩⟩)
  · have e := hl _ _ hc hk
    subst e
    refine ⟨[], ⟨0, 9, 12, 31⟩, [], rfl, (fun z hz => by cases hz), by decide, by decide, cl_L_31, List.mem_of_getElem? (i := 2) rfl, fun q => ?_⟩
    refine or_astore_n E dL_nods_12 (by decide) ?_
    refine or_iconst (v := nI 1) E rfl dL_nods_13 ?_
    exact or_iret E F dL_nods_14 (Nat.le_of_eq (Nat.zero_add _)) (Nat.le_of_eq (Nat.zero_add _)) (Or.inr ⟨3, hc, hk, rfl⟩)
theorem lk_L_120 : ow_lv RL 120 yX10_worth cX10_worth 3 (some .double) 2 := ⟨ow_T_in 1527 (by decide +kernel) (by decide +kernel), ow_T_in 1528 (by decide +kernel) (by decide +kernel), ow_T_in 1529 (by decide +kernel) (by decide +kernel), ow_T_in 1 (by decide +kernel) (by decide +kernel), ow_T_in 1530 (by decide +kernel) (by decide +kernel), ⟨by decide +kernel, by decide +kernel, by decide +kernel⟩⟩
set_option maxRecDepth 100000 in
set_option maxHeartbeats 400000 in
theorem wL_worth {Z : Nat → Nat} {h : ow_H} {x o k mc ms : Nat} {p0 : Int32} {p1 : Int32} {Kc : Nat → Option Value → ow_H → Prop} (hC : ow_Cx Z yX10_worth cX10_worth 3 (some .double) k mc ms [.ref x, .int p0, .int p1] h Kc) (hx : h.1 x = some (.inl (10, au_k x))) (hr : ∀ r h0, Kc 0 r h0 → ∃ a : UInt64, r = some (.double a) ∧ h0.1 o = some (.inr (.double, 1, ol_l))) (hl : ∀ c' h1, 0 < c' → Kc c' none h1 → c' = 3) : ow_Ch Z yL_worth cL_worth 5 (some .int) [(0, 9, 12, 31)] (k + 1) mc ms [.ref x, .int p0, .int p1, .ref o] h (wK Kc (wD o) [3]) := by
  refine ow_Ch.of rfl (Nat.le_of_ble_eq_true rfl) (fun X E G T9 F => ?_)
  have E : ow_E X RL cL_worth 5 (ow_rm (k + 1) mc ms) := E
  refine or_lv [(0, .ref x), (1, .int p0), (2, .int p1), (3, .ref o)] rfl ?_
  refine or_aload_n E rfl dL_worth_0 ?_
  refine or_iconst (v := nI 0) E rfl dL_worth_1 ?_
  refine or_aload_n E rfl dL_worth_2 ?_
  refine or_iload_n E rfl dL_worth_3 ?_
  refine or_iload_n E rfl dL_worth_4 ?_
  refine or_xVH (st := [.int (nI 0), .ref o]) [.int p0, .int p1] hC E G T9 lk_L_120 dL_worth_5 hx rfl rfl rfl (Nat.le_refl _) (by decide) ⟨Nat.le_of_eq (Nat.zero_add _), Nat.le_of_eq (Nat.zero_add _)⟩ (Nat.le_of_ble_eq_true rfl) (fun r h1 hk => ?_) (fun c' h1 hc hk => ?_)
  · obtain ⟨a, rfl, ho⟩ := hr _ _ hk
    refine or_dast E dL_worth_8 ho rfl rfl (by decide) (by decide) ?_
    refine or_goto 16 E dL_worth_9 rfl ?_
    refine or_iconst (v := nI 0) E rfl dL_worth_16 ?_
    exact or_iret E F dL_worth_17 (Nat.le_of_eq (Nat.zero_add _)) (Nat.le_of_eq (Nat.zero_add _)) (Or.inl ⟨some (.double a), h1, hk, rfl, ⟨a, rfl, rfl⟩⟩)
  · have e := hl _ _ hc hk
    subst e
    refine ⟨[], ⟨0, 9, 12, 31⟩, [], rfl, (fun z hz => by cases hz), by decide, by decide, cl_L_31, List.mem_of_getElem? (i := 2) rfl, fun q => ?_⟩
    refine or_astore E dL_worth_12 (by decide) ?_
    refine or_iconst (v := nI 1) E rfl dL_worth_14 ?_
    exact or_iret E F dL_worth_15 (Nat.le_of_eq (Nat.zero_add _)) (Nat.le_of_eq (Nat.zero_add _)) (Or.inr ⟨3, hc, hk, rfl⟩)
theorem lk_L_124 : ow_lv RL 124 yX10_whyNotNod cX10_whyNotNod 2 (some .int) 1 := ⟨ow_T_in 1535 (by decide +kernel) (by decide +kernel), ow_T_in 1536 (by decide +kernel) (by decide +kernel), ow_T_in 1537 (by decide +kernel) (by decide +kernel), ow_T_in 1 (by decide +kernel) (by decide +kernel), ow_T_in 1538 (by decide +kernel) (by decide +kernel), ⟨by decide +kernel, by decide +kernel, by decide +kernel⟩⟩
set_option maxRecDepth 100000 in
set_option maxHeartbeats 400000 in
theorem wL_whyNotNod {Z : Nat → Nat} {h : ow_H} {x o k mc ms : Nat} {p0 : Int32} {Kc : Nat → Option Value → ow_H → Prop} (hC : ow_Cx Z yX10_whyNotNod cX10_whyNotNod 2 (some .int) k mc ms [.ref x, .int p0] h Kc) (hx : h.1 x = some (.inl (10, au_k x))) (hr : ∀ r h0, Kc 0 r h0 → ∃ a : Int32, r = some (.int a) ∧ h0.1 o = some (.inr (.long, 1, ol_l))) (hl : ∀ c' h1, 0 < c' → Kc c' none h1 → c' = 3) : ow_Ch Z yL_whyNotNod cL_whyNotNod 4 (some .int) [(0, 9, 12, 31)] (k + 1) mc ms [.ref x, .int p0, .ref o] h (wK Kc (wI o) [3]) := by
  refine ow_Ch.of rfl (Nat.le_of_ble_eq_true rfl) (fun X E G T9 F => ?_)
  have E : ow_E X RL cL_whyNotNod 4 (ow_rm (k + 1) mc ms) := E
  refine or_lv [(0, .ref x), (1, .int p0), (2, .ref o)] rfl ?_
  refine or_aload_n E rfl dL_whyNotNod_0 ?_
  refine or_iconst (v := nI 0) E rfl dL_whyNotNod_1 ?_
  refine or_aload_n E rfl dL_whyNotNod_2 ?_
  refine or_iload_n E rfl dL_whyNotNod_3 ?_
  refine or_xVH (st := [.int (nI 0), .ref o]) [.int p0] hC E G T9 lk_L_124 dL_whyNotNod_4 hx rfl rfl rfl (Nat.le_refl _) (by decide) ⟨Nat.le_of_eq (Nat.zero_add _), Nat.le_of_eq (Nat.zero_add _)⟩ (Nat.le_of_ble_eq_true rfl) (fun r h1 hk => ?_) (fun c' h1 hc hk => ?_)
  · obtain ⟨a, rfl, ho⟩ := hr _ _ hk
    refine or_i2l E dL_whyNotNod_7 ?_
    refine or_last E dL_whyNotNod_8 ho rfl rfl (by decide) (by decide) ?_
    refine or_goto 15 E dL_whyNotNod_9 rfl ?_
    refine or_iconst (v := nI 0) E rfl dL_whyNotNod_15 ?_
    exact or_iret E F dL_whyNotNod_16 (Nat.le_of_eq (Nat.zero_add _)) (Nat.le_of_eq (Nat.zero_add _)) (Or.inl ⟨some (.int a), h1, hk, rfl, ⟨a, rfl, rfl⟩⟩)
  · have e := hl _ _ hc hk
    subst e
    refine ⟨[], ⟨0, 9, 12, 31⟩, [], rfl, (fun z hz => by cases hz), by decide, by decide, cl_L_31, List.mem_of_getElem? (i := 2) rfl, fun q => ?_⟩
    refine or_astore_n E dL_whyNotNod_12 (by decide) ?_
    refine or_iconst (v := nI 1) E rfl dL_whyNotNod_13 ?_
    exact or_iret E F dL_whyNotNod_14 (Nat.le_of_eq (Nat.zero_add _)) (Nat.le_of_eq (Nat.zero_add _)) (Or.inr ⟨3, hc, hk, rfl⟩)
theorem lk_L_127 : ow_lv RL 127 yX10_costOf cX10_costOf 2 (some .int) 1 := ⟨ow_T_in 1542 (by decide +kernel) (by decide +kernel), ow_T_in 1543 (by decide +kernel) (by decide +kernel), ow_T_in 1544 (by decide +kernel) (by decide +kernel), ow_T_in 1 (by decide +kernel) (by decide +kernel), ow_T_in 1545 (by decide +kernel) (by decide +kernel), ⟨by decide +kernel, by decide +kernel, by decide +kernel⟩⟩
set_option maxRecDepth 100000 in
set_option maxHeartbeats 400000 in
theorem wL_costOf {Z : Nat → Nat} {h : ow_H} {x o k mc ms : Nat} {p0 : Int32} {Kc : Nat → Option Value → ow_H → Prop} (hC : ow_Cx Z yX10_costOf cX10_costOf 2 (some .int) k mc ms [.ref x, .int p0] h Kc) (hx : h.1 x = some (.inl (10, au_k x))) (hr : ∀ r h0, Kc 0 r h0 → ∃ a : Int32, r = some (.int a) ∧ h0.1 o = some (.inr (.long, 1, ol_l))) (hl : ∀ c' h1, 0 < c' → Kc c' none h1 → c' = 1) : ow_Ch Z yL_costOf cL_costOf 4 (some .int) [(0, 9, 12, 19)] (k + 1) mc ms [.ref x, .int p0, .ref o] h (wK Kc (wI o) [1]) := by
  refine ow_Ch.of rfl (Nat.le_of_ble_eq_true rfl) (fun X E G T9 F => ?_)
  have E : ow_E X RL cL_costOf 4 (ow_rm (k + 1) mc ms) := E
  refine or_lv [(0, .ref x), (1, .int p0), (2, .ref o)] rfl ?_
  refine or_aload_n E rfl dL_costOf_0 ?_
  refine or_iconst (v := nI 0) E rfl dL_costOf_1 ?_
  refine or_aload_n E rfl dL_costOf_2 ?_
  refine or_iload_n E rfl dL_costOf_3 ?_
  refine or_xVH (st := [.int (nI 0), .ref o]) [.int p0] hC E G T9 lk_L_127 dL_costOf_4 hx rfl rfl rfl (Nat.le_refl _) (by decide) ⟨Nat.le_of_eq (Nat.zero_add _), Nat.le_of_eq (Nat.zero_add _)⟩ (Nat.le_of_ble_eq_true rfl) (fun r h1 hk => ?_) (fun c' h1 hc hk => ?_)
  · obtain ⟨a, rfl, ho⟩ := hr _ _ hk
    refine or_i2l E dL_costOf_7 ?_
    refine or_last E dL_costOf_8 ho rfl rfl (by decide) (by decide) ?_
    refine or_goto 15 E dL_costOf_9 rfl ?_
    refine or_iconst (v := nI 0) E rfl dL_costOf_15 ?_
    exact or_iret E F dL_costOf_16 (Nat.le_of_eq (Nat.zero_add _)) (Nat.le_of_eq (Nat.zero_add _)) (Or.inl ⟨some (.int a), h1, hk, rfl, ⟨a, rfl, rfl⟩⟩)
  · have e := hl _ _ hc hk
    subst e
    refine ⟨[], ⟨0, 9, 12, 19⟩, [], rfl, (fun z hz => by cases hz), by decide, by decide, cl_L_19, List.mem_of_getElem? (i := 0) rfl, fun q => ?_⟩
    refine or_astore_n E dL_costOf_12 (by decide) ?_
    refine or_iconst (v := nI 1) E rfl dL_costOf_13 ?_
    exact or_iret E F dL_costOf_14 (Nat.le_of_eq (Nat.zero_add _)) (Nat.le_of_eq (Nat.zero_add _)) (Or.inr ⟨1, hc, hk, rfl⟩)
theorem lk_L_130 : ow_lv RL 130 yX10_keenestBuyer cX10_keenestBuyer 2 (some .int) 1 := ⟨ow_T_in 1550 (by decide +kernel) (by decide +kernel), ow_T_in 1551 (by decide +kernel) (by decide +kernel), ow_T_in 1552 (by decide +kernel) (by decide +kernel), ow_T_in 1 (by decide +kernel) (by decide +kernel), ow_T_in 1553 (by decide +kernel) (by decide +kernel), ⟨by decide +kernel, by decide +kernel, by decide +kernel⟩⟩
set_option maxRecDepth 100000 in
set_option maxHeartbeats 400000 in
theorem wL_keenestBuyer {Z : Nat → Nat} {h : ow_H} {x o k mc ms : Nat} {p0 : Int32} {Kc : Nat → Option Value → ow_H → Prop} (hC : ow_Cx Z yX10_keenestBuyer cX10_keenestBuyer 2 (some .int) k mc ms [.ref x, .int p0] h Kc) (hx : h.1 x = some (.inl (10, au_k x))) (hr : ∀ r h0, Kc 0 r h0 → ∃ a : Int32, r = some (.int a) ∧ h0.1 o = some (.inr (.long, 1, ol_l))) (hl : ∀ c' h1, 0 < c' → Kc c' none h1 → c' = 3) : ow_Ch Z yL_keenestBuyer cL_keenestBuyer 4 (some .int) [(0, 9, 12, 31)] (k + 1) mc ms [.ref x, .int p0, .ref o] h (wK Kc (wI o) [3]) := by
  refine ow_Ch.of rfl (Nat.le_of_ble_eq_true rfl) (fun X E G T9 F => ?_)
  have E : ow_E X RL cL_keenestBuyer 4 (ow_rm (k + 1) mc ms) := E
  refine or_lv [(0, .ref x), (1, .int p0), (2, .ref o)] rfl ?_
  refine or_aload_n E rfl dL_keenestBuyer_0 ?_
  refine or_iconst (v := nI 0) E rfl dL_keenestBuyer_1 ?_
  refine or_aload_n E rfl dL_keenestBuyer_2 ?_
  refine or_iload_n E rfl dL_keenestBuyer_3 ?_
  refine or_xVH (st := [.int (nI 0), .ref o]) [.int p0] hC E G T9 lk_L_130 dL_keenestBuyer_4 hx rfl rfl rfl (Nat.le_refl _) (by decide) ⟨Nat.le_of_eq (Nat.zero_add _), Nat.le_of_eq (Nat.zero_add _)⟩ (Nat.le_of_ble_eq_true rfl) (fun r h1 hk => ?_) (fun c' h1 hc hk => ?_)
  · obtain ⟨a, rfl, ho⟩ := hr _ _ hk
    refine or_i2l E dL_keenestBuyer_7 ?_
    refine or_last E dL_keenestBuyer_8 ho rfl rfl (by decide) (by decide) ?_
    refine or_goto 15 E dL_keenestBuyer_9 rfl ?_
    refine or_iconst (v := nI 0) E rfl dL_keenestBuyer_15 ?_
    exact or_iret E F dL_keenestBuyer_16 (Nat.le_of_eq (Nat.zero_add _)) (Nat.le_of_eq (Nat.zero_add _)) (Or.inl ⟨some (.int a), h1, hk, rfl, ⟨a, rfl, rfl⟩⟩)
  · have e := hl _ _ hc hk
    subst e
    refine ⟨[], ⟨0, 9, 12, 31⟩, [], rfl, (fun z hz => by cases hz), by decide, by decide, cl_L_31, List.mem_of_getElem? (i := 2) rfl, fun q => ?_⟩
    refine or_astore_n E dL_keenestBuyer_12 (by decide) ?_
    refine or_iconst (v := nI 1) E rfl dL_keenestBuyer_13 ?_
    exact or_iret E F dL_keenestBuyer_14 (Nat.le_of_eq (Nat.zero_add _)) (Nat.le_of_eq (Nat.zero_add _)) (Or.inr ⟨3, hc, hk, rfl⟩)
theorem lk_L_133 : ow_lv RL 133 yX10_minutesToSale cX10_minutesToSale 4 (some .int) 1 := ⟨ow_T_in 1561 (by decide +kernel) (by decide +kernel), ow_T_in 1562 (by decide +kernel) (by decide +kernel), ow_T_in 1563 (by decide +kernel) (by decide +kernel), ow_T_in 1 (by decide +kernel) (by decide +kernel), ow_T_in 1564 (by decide +kernel) (by decide +kernel), ⟨by decide +kernel, by decide +kernel, by decide +kernel⟩⟩
set_option maxRecDepth 100000 in
set_option maxHeartbeats 400000 in
theorem wL_minutesToSale {Z : Nat → Nat} {h : ow_H} {x o k mc ms : Nat} {p0 : Int32} {Kc : Nat → Option Value → ow_H → Prop} (hC : ow_Cx Z yX10_minutesToSale cX10_minutesToSale 4 (some .int) k mc ms [.ref x, .int p0] h Kc) (hx : h.1 x = some (.inl (10, au_k x))) (hr : ∀ r h0, Kc 0 r h0 → ∃ a : Int32, r = some (.int a) ∧ h0.1 o = some (.inr (.long, 1, ol_l))) (hl : ∀ c' h1, 0 < c' → Kc c' none h1 → c' = 3) : ow_Ch Z yL_minutesToSale cL_minutesToSale 4 (some .int) [(0, 9, 12, 31)] (k + 1) mc ms [.ref x, .int p0, .ref o] h (wK Kc (wI o) [3]) := by
  refine ow_Ch.of rfl (Nat.le_of_ble_eq_true rfl) (fun X E G T9 F => ?_)
  have E : ow_E X RL cL_minutesToSale 4 (ow_rm (k + 1) mc ms) := E
  refine or_lv [(0, .ref x), (1, .int p0), (2, .ref o)] rfl ?_
  refine or_aload_n E rfl dL_minutesToSale_0 ?_
  refine or_iconst (v := nI 0) E rfl dL_minutesToSale_1 ?_
  refine or_aload_n E rfl dL_minutesToSale_2 ?_
  refine or_iload_n E rfl dL_minutesToSale_3 ?_
  refine or_xVH (st := [.int (nI 0), .ref o]) [.int p0] hC E G T9 lk_L_133 dL_minutesToSale_4 hx rfl rfl rfl (Nat.le_refl _) (by decide) ⟨Nat.le_of_eq (Nat.zero_add _), Nat.le_of_eq (Nat.zero_add _)⟩ (Nat.le_of_ble_eq_true rfl) (fun r h1 hk => ?_) (fun c' h1 hc hk => ?_)
  · obtain ⟨a, rfl, ho⟩ := hr _ _ hk
    refine or_i2l E dL_minutesToSale_7 ?_
    refine or_last E dL_minutesToSale_8 ho rfl rfl (by decide) (by decide) ?_
    refine or_goto 15 E dL_minutesToSale_9 rfl ?_
    refine or_iconst (v := nI 0) E rfl dL_minutesToSale_15 ?_
    exact or_iret E F dL_minutesToSale_16 (Nat.le_of_eq (Nat.zero_add _)) (Nat.le_of_eq (Nat.zero_add _)) (Or.inl ⟨some (.int a), h1, hk, rfl, ⟨a, rfl, rfl⟩⟩)
  · have e := hl _ _ hc hk
    subst e
    refine ⟨[], ⟨0, 9, 12, 31⟩, [], rfl, (fun z hz => by cases hz), by decide, by decide, cl_L_31, List.mem_of_getElem? (i := 2) rfl, fun q => ?_⟩
    refine or_astore_n E dL_minutesToSale_12 (by decide) ?_
    refine or_iconst (v := nI 1) E rfl dL_minutesToSale_13 ?_
    exact or_iret E F dL_minutesToSale_14 (Nat.le_of_eq (Nat.zero_add _)) (Nat.le_of_eq (Nat.zero_add _)) (Or.inr ⟨3, hc, hk, rfl⟩)
theorem lk_L_136 : ow_lv RL 136 yX10_buyerAfter cX10_buyerAfter 3 (some .int) 2 := ⟨ow_T_in 1568 (by decide +kernel) (by decide +kernel), ow_T_in 1569 (by decide +kernel) (by decide +kernel), ow_T_in 1570 (by decide +kernel) (by decide +kernel), ow_T_in 1 (by decide +kernel) (by decide +kernel), ow_T_in 1571 (by decide +kernel) (by decide +kernel), ⟨by decide +kernel, by decide +kernel, by decide +kernel⟩⟩
set_option maxRecDepth 100000 in
set_option maxHeartbeats 400000 in
theorem wL_buyerAfter {Z : Nat → Nat} {h : ow_H} {x o k mc ms : Nat} {p0 : Int32} {p1 : Int32} {Kc : Nat → Option Value → ow_H → Prop} (hC : ow_Cx Z yX10_buyerAfter cX10_buyerAfter 3 (some .int) k mc ms [.ref x, .int p0, .int p1] h Kc) (hx : h.1 x = some (.inl (10, au_k x))) (hr : ∀ r h0, Kc 0 r h0 → ∃ a : Int32, r = some (.int a) ∧ h0.1 o = some (.inr (.long, 1, ol_l))) (hl : ∀ c' h1, 0 < c' → Kc c' none h1 → c' = 3 ∨ c' = 1) : ow_Ch Z yL_buyerAfter cL_buyerAfter 5 (some .int) [(0, 10, 13, 31), (0, 10, 17, 19)] (k + 1) mc ms [.ref x, .int p0, .int p1, .ref o] h (wK Kc (wI o) [3, 1]) := by
  refine ow_Ch.of rfl (Nat.le_of_ble_eq_true rfl) (fun X E G T9 F => ?_)
  have E : ow_E X RL cL_buyerAfter 5 (ow_rm (k + 1) mc ms) := E
  refine or_lv [(0, .ref x), (1, .int p0), (2, .int p1), (3, .ref o)] rfl ?_
  refine or_aload_n E rfl dL_buyerAfter_0 ?_
  refine or_iconst (v := nI 0) E rfl dL_buyerAfter_1 ?_
  refine or_aload_n E rfl dL_buyerAfter_2 ?_
  refine or_iload_n E rfl dL_buyerAfter_3 ?_
  refine or_iload_n E rfl dL_buyerAfter_4 ?_
  refine or_xVH (st := [.int (nI 0), .ref o]) [.int p0, .int p1] hC E G T9 lk_L_136 dL_buyerAfter_5 hx rfl rfl rfl (Nat.le_refl _) (by decide) ⟨Nat.le_of_eq (Nat.zero_add _), Nat.le_of_eq (Nat.zero_add _)⟩ (Nat.le_of_ble_eq_true rfl) (fun r h1 hk => ?_) (fun c' h1 hc hk => ?_)
  · obtain ⟨a, rfl, ho⟩ := hr _ _ hk
    refine or_i2l E dL_buyerAfter_8 ?_
    refine or_last E dL_buyerAfter_9 ho rfl rfl (by decide) (by decide) ?_
    refine or_goto 21 E dL_buyerAfter_10 rfl ?_
    refine or_iconst (v := nI 0) E rfl dL_buyerAfter_21 ?_
    exact or_iret E F dL_buyerAfter_22 (Nat.le_of_eq (Nat.zero_add _)) (Nat.le_of_eq (Nat.zero_add _)) (Or.inl ⟨some (.int a), h1, hk, rfl, ⟨a, rfl, rfl⟩⟩)
  · rcases hl _ _ hc hk with rfl | rfl
    · refine ⟨[], ⟨0, 10, 13, 31⟩, [⟨0, 10, 17, 19⟩], rfl, (fun z hz => by cases hz), by decide, by decide, cl_L_31, List.mem_of_getElem? (i := 2) rfl, fun q => ?_⟩
      refine or_astore E dL_buyerAfter_13 (by decide) ?_
      refine or_iconst (v := nI 1) E rfl dL_buyerAfter_15 ?_
      exact or_iret E F dL_buyerAfter_16 (Nat.le_of_eq (Nat.zero_add _)) (Nat.le_of_eq (Nat.zero_add _)) (Or.inr ⟨3, hc, hk, rfl⟩)
    · refine ⟨[⟨0, 10, 13, 31⟩], ⟨0, 10, 17, 19⟩, [], rfl, (fun z hz => by
        cases List.mem_singleton.mp hz
        exact ⟨by decide, _, cl_L_31, List.mem_of_getElem? (i := 2) rfl⟩), by decide, by decide, cl_L_19, List.mem_of_getElem? (i := 0) rfl, fun q => ?_⟩
      refine or_astore E dL_buyerAfter_17 (by decide) ?_
      refine or_iconst (v := nI 2) E rfl dL_buyerAfter_19 ?_
      exact or_iret E F dL_buyerAfter_20 (Nat.le_of_eq (Nat.zero_add _)) (Nat.le_of_eq (Nat.zero_add _)) (Or.inr ⟨1, hc, hk, rfl⟩)
theorem lk_L_139 : ow_lv RL 139 yX10_sellerCoinsAfter cX10_sellerCoinsAfter 2 (some .int) 1 := ⟨ow_T_in 1579 (by decide +kernel) (by decide +kernel), ow_T_in 1580 (by decide +kernel) (by decide +kernel), ow_T_in 1581 (by decide +kernel) (by decide +kernel), ow_T_in 1 (by decide +kernel) (by decide +kernel), ow_T_in 1582 (by decide +kernel) (by decide +kernel), ⟨by decide +kernel, by decide +kernel, by decide +kernel⟩⟩
set_option maxRecDepth 100000 in
set_option maxHeartbeats 400000 in
theorem wL_sellerCoinsAfter {Z : Nat → Nat} {h : ow_H} {x o k mc ms : Nat} {p0 : Int32} {Kc : Nat → Option Value → ow_H → Prop} (hC : ow_Cx Z yX10_sellerCoinsAfter cX10_sellerCoinsAfter 2 (some .int) k mc ms [.ref x, .int p0] h Kc) (hx : h.1 x = some (.inl (10, au_k x))) (hr : ∀ r h0, Kc 0 r h0 → ∃ a : Int32, r = some (.int a) ∧ h0.1 o = some (.inr (.long, 1, ol_l))) (hl : ∀ c' h1, 0 < c' → Kc c' none h1 → c' = 1) : ow_Ch Z yL_sellerCoinsAfter cL_sellerCoinsAfter 4 (some .int) [(0, 9, 12, 19)] (k + 1) mc ms [.ref x, .int p0, .ref o] h (wK Kc (wI o) [1]) := by
  refine ow_Ch.of rfl (Nat.le_of_ble_eq_true rfl) (fun X E G T9 F => ?_)
  have E : ow_E X RL cL_sellerCoinsAfter 4 (ow_rm (k + 1) mc ms) := E
  refine or_lv [(0, .ref x), (1, .int p0), (2, .ref o)] rfl ?_
  refine or_aload_n E rfl dL_sellerCoinsAfter_0 ?_
  refine or_iconst (v := nI 0) E rfl dL_sellerCoinsAfter_1 ?_
  refine or_aload_n E rfl dL_sellerCoinsAfter_2 ?_
  refine or_iload_n E rfl dL_sellerCoinsAfter_3 ?_
  refine or_xVH (st := [.int (nI 0), .ref o]) [.int p0] hC E G T9 lk_L_139 dL_sellerCoinsAfter_4 hx rfl rfl rfl (Nat.le_refl _) (by decide) ⟨Nat.le_of_eq (Nat.zero_add _), Nat.le_of_eq (Nat.zero_add _)⟩ (Nat.le_of_ble_eq_true rfl) (fun r h1 hk => ?_) (fun c' h1 hc hk => ?_)
  · obtain ⟨a, rfl, ho⟩ := hr _ _ hk
    refine or_i2l E dL_sellerCoinsAfter_7 ?_
    refine or_last E dL_sellerCoinsAfter_8 ho rfl rfl (by decide) (by decide) ?_
    refine or_goto 15 E dL_sellerCoinsAfter_9 rfl ?_
    refine or_iconst (v := nI 0) E rfl dL_sellerCoinsAfter_15 ?_
    exact or_iret E F dL_sellerCoinsAfter_16 (Nat.le_of_eq (Nat.zero_add _)) (Nat.le_of_eq (Nat.zero_add _)) (Or.inl ⟨some (.int a), h1, hk, rfl, ⟨a, rfl, rfl⟩⟩)
  · have e := hl _ _ hc hk
    subst e
    refine ⟨[], ⟨0, 9, 12, 19⟩, [], rfl, (fun z hz => by cases hz), by decide, by decide, cl_L_19, List.mem_of_getElem? (i := 0) rfl, fun q => ?_⟩
    refine or_astore_n E dL_sellerCoinsAfter_12 (by decide) ?_
    refine or_iconst (v := nI 1) E rfl dL_sellerCoinsAfter_13 ?_
    exact or_iret E F dL_sellerCoinsAfter_14 (Nat.le_of_eq (Nat.zero_add _)) (Nat.le_of_eq (Nat.zero_add _)) (Or.inr ⟨1, hc, hk, rfl⟩)
theorem lk_L_142 : ow_lv RL 142 yX10_bestStep cX10_bestStep 5 (some .int) 1 := ⟨ow_T_in 1586 (by decide +kernel) (by decide +kernel), ow_T_in 1587 (by decide +kernel) (by decide +kernel), ow_T_in 1588 (by decide +kernel) (by decide +kernel), ow_T_in 1 (by decide +kernel) (by decide +kernel), ow_T_in 1589 (by decide +kernel) (by decide +kernel), ⟨by decide +kernel, by decide +kernel, by decide +kernel⟩⟩
set_option maxRecDepth 100000 in
set_option maxHeartbeats 400000 in
theorem wL_bestStep {Z : Nat → Nat} {h : ow_H} {x o k mc ms : Nat} {p0 : Int32} {Kc : Nat → Option Value → ow_H → Prop} (hC : ow_Cx Z yX10_bestStep cX10_bestStep 5 (some .int) k mc ms [.ref x, .int p0] h Kc) (hx : h.1 x = some (.inl (10, au_k x))) (hr : ∀ r h0, Kc 0 r h0 → ∃ a : Int32, r = some (.int a) ∧ h0.1 o = some (.inr (.long, 1, ol_l))) (hl : ∀ c' h1, 0 < c' → Kc c' none h1 → c' = 1) : ow_Ch Z yL_bestStep cL_bestStep 4 (some .int) [(0, 9, 12, 19)] (k + 1) mc ms [.ref x, .int p0, .ref o] h (wK Kc (wI o) [1]) := by
  refine ow_Ch.of rfl (Nat.le_of_ble_eq_true rfl) (fun X E G T9 F => ?_)
  have E : ow_E X RL cL_bestStep 4 (ow_rm (k + 1) mc ms) := E
  refine or_lv [(0, .ref x), (1, .int p0), (2, .ref o)] rfl ?_
  refine or_aload_n E rfl dL_bestStep_0 ?_
  refine or_iconst (v := nI 0) E rfl dL_bestStep_1 ?_
  refine or_aload_n E rfl dL_bestStep_2 ?_
  refine or_iload_n E rfl dL_bestStep_3 ?_
  refine or_xVH (st := [.int (nI 0), .ref o]) [.int p0] hC E G T9 lk_L_142 dL_bestStep_4 hx rfl rfl rfl (Nat.le_refl _) (by decide) ⟨Nat.le_of_eq (Nat.zero_add _), Nat.le_of_eq (Nat.zero_add _)⟩ (Nat.le_of_ble_eq_true rfl) (fun r h1 hk => ?_) (fun c' h1 hc hk => ?_)
  · obtain ⟨a, rfl, ho⟩ := hr _ _ hk
    refine or_i2l E dL_bestStep_7 ?_
    refine or_last E dL_bestStep_8 ho rfl rfl (by decide) (by decide) ?_
    refine or_goto 15 E dL_bestStep_9 rfl ?_
    refine or_iconst (v := nI 0) E rfl dL_bestStep_15 ?_
    exact or_iret E F dL_bestStep_16 (Nat.le_of_eq (Nat.zero_add _)) (Nat.le_of_eq (Nat.zero_add _)) (Or.inl ⟨some (.int a), h1, hk, rfl, ⟨a, rfl, rfl⟩⟩)
  · have e := hl _ _ hc hk
    subst e
    refine ⟨[], ⟨0, 9, 12, 19⟩, [], rfl, (fun z hz => by cases hz), by decide, by decide, cl_L_19, List.mem_of_getElem? (i := 0) rfl, fun q => ?_⟩
    refine or_astore_n E dL_bestStep_12 (by decide) ?_
    refine or_iconst (v := nI 1) E rfl dL_bestStep_13 ?_
    exact or_iret E F dL_bestStep_14 (Nat.le_of_eq (Nat.zero_add _)) (Nat.le_of_eq (Nat.zero_add _)) (Or.inr ⟨1, hc, hk, rfl⟩)
theorem lk_L_145 : ow_lv RL 145 yX10_writeBarrel cX10_writeBarrel 3 (some .int) 1 := ⟨ow_T_in 1593 (by decide +kernel) (by decide +kernel), ow_T_in 1594 (by decide +kernel) (by decide +kernel), ow_T_in 1595 (by decide +kernel) (by decide +kernel), ow_T_in 1 (by decide +kernel) (by decide +kernel), ow_T_in 1596 (by decide +kernel) (by decide +kernel), ⟨by decide +kernel, by decide +kernel, by decide +kernel⟩⟩
set_option maxRecDepth 100000 in
set_option maxHeartbeats 400000 in
theorem wL_writeBarrel {Z : Nat → Nat} {h : ow_H} {x o k mc ms : Nat} {p0 : Int32} {Kc : Nat → Option Value → ow_H → Prop} (hC : ow_Cx Z yX10_writeBarrel cX10_writeBarrel 3 (some .int) k mc ms [.ref x, .int p0] h Kc) (hx : h.1 x = some (.inl (10, au_k x))) (hr : ∀ r h0, Kc 0 r h0 → ∃ a : Int32, r = some (.int a) ∧ h0.1 o = some (.inr (.long, 1, ol_l))) (hl : ∀ c' h1, 0 < c' → Kc c' none h1 → c' = 3) : ow_Ch Z yL_writeBarrel cL_writeBarrel 4 (some .int) [(0, 9, 12, 31)] (k + 1) mc ms [.ref x, .int p0, .ref o] h (wK Kc (wI o) [3]) := by
  refine ow_Ch.of rfl (Nat.le_of_ble_eq_true rfl) (fun X E G T9 F => ?_)
  have E : ow_E X RL cL_writeBarrel 4 (ow_rm (k + 1) mc ms) := E
  refine or_lv [(0, .ref x), (1, .int p0), (2, .ref o)] rfl ?_
  refine or_aload_n E rfl dL_writeBarrel_0 ?_
  refine or_iconst (v := nI 0) E rfl dL_writeBarrel_1 ?_
  refine or_aload_n E rfl dL_writeBarrel_2 ?_
  refine or_iload_n E rfl dL_writeBarrel_3 ?_
  refine or_xVH (st := [.int (nI 0), .ref o]) [.int p0] hC E G T9 lk_L_145 dL_writeBarrel_4 hx rfl rfl rfl (Nat.le_refl _) (by decide) ⟨Nat.le_of_eq (Nat.zero_add _), Nat.le_of_eq (Nat.zero_add _)⟩ (Nat.le_of_ble_eq_true rfl) (fun r h1 hk => ?_) (fun c' h1 hc hk => ?_)
  · obtain ⟨a, rfl, ho⟩ := hr _ _ hk
    refine or_i2l E dL_writeBarrel_7 ?_
    refine or_last E dL_writeBarrel_8 ho rfl rfl (by decide) (by decide) ?_
    refine or_goto 15 E dL_writeBarrel_9 rfl ?_
    refine or_iconst (v := nI 0) E rfl dL_writeBarrel_15 ?_
    exact or_iret E F dL_writeBarrel_16 (Nat.le_of_eq (Nat.zero_add _)) (Nat.le_of_eq (Nat.zero_add _)) (Or.inl ⟨some (.int a), h1, hk, rfl, ⟨a, rfl, rfl⟩⟩)
  · have e := hl _ _ hc hk
    subst e
    refine ⟨[], ⟨0, 9, 12, 31⟩, [], rfl, (fun z hz => by cases hz), by decide, by decide, cl_L_31, List.mem_of_getElem? (i := 2) rfl, fun q => ?_⟩
    refine or_astore_n E dL_writeBarrel_12 (by decide) ?_
    refine or_iconst (v := nI 1) E rfl dL_writeBarrel_13 ?_
    exact or_iret E F dL_writeBarrel_14 (Nat.le_of_eq (Nat.zero_add _)) (Nat.le_of_eq (Nat.zero_add _)) (Or.inr ⟨3, hc, hk, rfl⟩)
theorem lh_L_152 : ow_lh RL 152 yL_append cL_append 8 (some .int) [(0, 16, 19, 13)] 7 := ⟨ow_T_in 1059 (by decide +kernel) (by decide +kernel), ow_T_in 1060 (by decide +kernel) (by decide +kernel), ow_T_in 0 (by decide +kernel) (by decide +kernel), ow_T_in 1061 (by decide +kernel) (by decide +kernel), ⟨by decide +kernel, by decide +kernel, by decide +kernel⟩⟩
theorem lh_L_161 : ow_lh RL 161 yL_truncate cL_truncate 4 (some .int) [(0, 9, 12, 19)] 3 := ⟨ow_T_in 1087 (by decide +kernel) (by decide +kernel), ow_T_in 1088 (by decide +kernel) (by decide +kernel), ow_T_in 0 (by decide +kernel) (by decide +kernel), ow_T_in 1089 (by decide +kernel) (by decide +kernel), ⟨by decide +kernel, by decide +kernel, by decide +kernel⟩⟩
theorem lh_L_173 : ow_lh RL 173 yL_loadSetup cL_loadSetup 3 (some .int) [(0, 8, 11, 19)] 2 := ⟨ow_T_in 1101 (by decide +kernel) (by decide +kernel), ow_T_in 1102 (by decide +kernel) (by decide +kernel), ow_T_in 0 (by decide +kernel) (by decide +kernel), ow_T_in 1103 (by decide +kernel) (by decide +kernel), ⟨by decide +kernel, by decide +kernel, by decide +kernel⟩⟩
theorem lh_L_177 : ow_lh RL 177 yL_runScript cL_runScript 3 (some .int) [(0, 8, 11, 19)] 2 := ⟨ow_T_in 1133 (by decide +kernel) (by decide +kernel), ow_T_in 1134 (by decide +kernel) (by decide +kernel), ow_T_in 0 (by decide +kernel) (by decide +kernel), ow_T_in 1135 (by decide +kernel) (by decide +kernel), ⟨by decide +kernel, by decide +kernel, by decide +kernel⟩⟩
theorem lh_L_180 : ow_lh RL 180 yL_nod cL_nod 4 (some .int) [(0, 9, 12, 31), (0, 9, 15, 13)] 3 := ⟨ow_T_in 1251 (by decide +kernel) (by decide +kernel), ow_T_in 1252 (by decide +kernel) (by decide +kernel), ow_T_in 0 (by decide +kernel) (by decide +kernel), ow_T_in 1253 (by decide +kernel) (by decide +kernel), ⟨by decide +kernel, by decide +kernel, by decide +kernel⟩⟩
theorem lh_L_183 : ow_lh RL 183 yL_passMinutes cL_passMinutes 4 (some .int) [(0, 9, 12, 19)] 3 := ⟨ow_T_in 1283 (by decide +kernel) (by decide +kernel), ow_T_in 1284 (by decide +kernel) (by decide +kernel), ow_T_in 0 (by decide +kernel) (by decide +kernel), ow_T_in 1285 (by decide +kernel) (by decide +kernel), ⟨by decide +kernel, by decide +kernel, by decide +kernel⟩⟩
theorem lh_L_186 : ow_lh RL 186 yL_addBarrel cL_addBarrel 6 (some .int) [(0, 12, 15, 19), (0, 12, 19, 13)] 5 := ⟨ow_T_in 1291 (by decide +kernel) (by decide +kernel), ow_T_in 1292 (by decide +kernel) (by decide +kernel), ow_T_in 0 (by decide +kernel) (by decide +kernel), ow_T_in 1293 (by decide +kernel) (by decide +kernel), ⟨by decide +kernel, by decide +kernel, by decide +kernel⟩⟩
theorem lh_L_190 : ow_lh RL 190 yL_split cL_split 5 (some .int) [(0, 10, 13, 31), (0, 10, 17, 19), (0, 10, 21, 13)] 4 := ⟨ow_T_in 1303 (by decide +kernel) (by decide +kernel), ow_T_in 1304 (by decide +kernel) (by decide +kernel), ow_T_in 0 (by decide +kernel) (by decide +kernel), ow_T_in 1305 (by decide +kernel) (by decide +kernel), ⟨by decide +kernel, by decide +kernel, by decide +kernel⟩⟩
theorem lh_L_194 : ow_lh RL 194 yL_withdraw cL_withdraw 4 (some .int) [(0, 9, 12, 31), (0, 9, 15, 13)] 3 := ⟨ow_T_in 1318 (by decide +kernel) (by decide +kernel), ow_T_in 1319 (by decide +kernel) (by decide +kernel), ow_T_in 0 (by decide +kernel) (by decide +kernel), ow_T_in 1320 (by decide +kernel) (by decide +kernel), ⟨by decide +kernel, by decide +kernel, by decide +kernel⟩⟩
theorem lh_L_197 : ow_lh RL 197 yL_fund cL_fund 5 (some .int) [(0, 10, 13, 31), (0, 10, 17, 19)] 4 := ⟨ow_T_in 1327 (by decide +kernel) (by decide +kernel), ow_T_in 1328 (by decide +kernel) (by decide +kernel), ow_T_in 0 (by decide +kernel) (by decide +kernel), ow_T_in 1329 (by decide +kernel) (by decide +kernel), ⟨by decide +kernel, by decide +kernel, by decide +kernel⟩⟩
theorem lh_L_200 : ow_lh RL 200 yL_setReserve cL_setReserve 5 (some .int) [(0, 10, 13, 31), (0, 10, 17, 19), (0, 10, 21, 13)] 4 := ⟨ow_T_in 1335 (by decide +kernel) (by decide +kernel), ow_T_in 1336 (by decide +kernel) (by decide +kernel), ow_T_in 0 (by decide +kernel) (by decide +kernel), ow_T_in 1337 (by decide +kernel) (by decide +kernel), ⟨by decide +kernel, by decide +kernel, by decide +kernel⟩⟩
theorem lh_L_203 : ow_lh RL 203 yL_setStep cL_setStep 4 (some .int) [(0, 9, 12, 19)] 3 := ⟨ow_T_in 1342 (by decide +kernel) (by decide +kernel), ow_T_in 1343 (by decide +kernel) (by decide +kernel), ow_T_in 0 (by decide +kernel) (by decide +kernel), ow_T_in 1344 (by decide +kernel) (by decide +kernel), ⟨by decide +kernel, by decide +kernel, by decide +kernel⟩⟩
theorem lh_L_206 : ow_lh RL 206 yL_setTaste cL_setTaste 6 (some .int) [(0, 12, 15, 31), (0, 12, 19, 19)] 5 := ⟨ow_T_in 1349 (by decide +kernel) (by decide +kernel), ow_T_in 1350 (by decide +kernel) (by decide +kernel), ow_T_in 0 (by decide +kernel) (by decide +kernel), ow_T_in 1351 (by decide +kernel) (by decide +kernel), ⟨by decide +kernel, by decide +kernel, by decide +kernel⟩⟩
theorem lh_L_209 : ow_lh RL 209 yL_undo cL_undo 3 (some .int) [(0, 8, 11, 62)] 2 := ⟨ow_T_in 1356 (by decide +kernel) (by decide +kernel), ow_T_in 1357 (by decide +kernel) (by decide +kernel), ow_T_in 0 (by decide +kernel) (by decide +kernel), ow_T_in 1358 (by decide +kernel) (by decide +kernel), ⟨by decide +kernel, by decide +kernel, by decide +kernel⟩⟩
theorem lh_L_212 : ow_lh RL 212 yL_saveSnapshot cL_saveSnapshot 3 (some .int) [(0, 5, 8, 19)] 2 := ⟨ow_T_in 1384 (by decide +kernel) (by decide +kernel), ow_T_in 1385 (by decide +kernel) (by decide +kernel), ow_T_in 0 (by decide +kernel) (by decide +kernel), ow_T_in 1386 (by decide +kernel) (by decide +kernel), ⟨by decide +kernel, by decide +kernel, by decide +kernel⟩⟩
theorem lh_L_216 : ow_lh RL 216 yL_restoreSnapshot cL_restoreSnapshot 4 (some .int) [(0, 9, 12, 19), (0, 9, 15, 62)] 3 := ⟨ow_T_in 1391 (by decide +kernel) (by decide +kernel), ow_T_in 1392 (by decide +kernel) (by decide +kernel), ow_T_in 0 (by decide +kernel) (by decide +kernel), ow_T_in 1393 (by decide +kernel) (by decide +kernel), ⟨by decide +kernel, by decide +kernel, by decide +kernel⟩⟩
theorem lh_L_276 : ow_lh RL 276 yL_eels cL_eels 4 (some .int) [(0, 9, 12, 31)] 3 := ⟨ow_T_in 1399 (by decide +kernel) (by decide +kernel), ow_T_in 1400 (by decide +kernel) (by decide +kernel), ow_T_in 0 (by decide +kernel) (by decide +kernel), ow_T_in 1401 (by decide +kernel) (by decide +kernel), ⟨by decide +kernel, by decide +kernel, by decide +kernel⟩⟩
theorem lh_L_279 : ow_lh RL 279 yL_length cL_length 5 (some .int) [(0, 10, 13, 31)] 4 := ⟨ow_T_in 1410 (by decide +kernel) (by decide +kernel), ow_T_in 1411 (by decide +kernel) (by decide +kernel), ow_T_in 0 (by decide +kernel) (by decide +kernel), ow_T_in 1412 (by decide +kernel) (by decide +kernel), ⟨by decide +kernel, by decide +kernel, by decide +kernel⟩⟩
theorem lh_L_282 : ow_lh RL 282 yL_totalLength cL_totalLength 4 (some .int) [(0, 9, 12, 31)] 3 := ⟨ow_T_in 1418 (by decide +kernel) (by decide +kernel), ow_T_in 1419 (by decide +kernel) (by decide +kernel), ow_T_in 0 (by decide +kernel) (by decide +kernel), ow_T_in 1420 (by decide +kernel) (by decide +kernel), ⟨by decide +kernel, by decide +kernel, by decide +kernel⟩⟩
theorem lh_L_285 : ow_lh RL 285 yL_greatestLength cL_greatestLength 4 (some .int) [(0, 9, 12, 31)] 3 := ⟨ow_T_in 1425 (by decide +kernel) (by decide +kernel), ow_T_in 1426 (by decide +kernel) (by decide +kernel), ow_T_in 0 (by decide +kernel) (by decide +kernel), ow_T_in 1427 (by decide +kernel) (by decide +kernel), ⟨by decide +kernel, by decide +kernel, by decide +kernel⟩⟩
theorem lh_L_288 : ow_lh RL 288 yL_middleLength cL_middleLength 4 (some .int) [(0, 9, 12, 31)] 3 := ⟨ow_T_in 1432 (by decide +kernel) (by decide +kernel), ow_T_in 1433 (by decide +kernel) (by decide +kernel), ow_T_in 0 (by decide +kernel) (by decide +kernel), ow_T_in 1434 (by decide +kernel) (by decide +kernel), ⟨by decide +kernel, by decide +kernel, by decide +kernel⟩⟩
theorem lh_L_291 : ow_lh RL 291 yL_reserve cL_reserve 4 (some .int) [(0, 9, 12, 31)] 3 := ⟨ow_T_in 1443 (by decide +kernel) (by decide +kernel), ow_T_in 1444 (by decide +kernel) (by decide +kernel), ow_T_in 0 (by decide +kernel) (by decide +kernel), ow_T_in 1445 (by decide +kernel) (by decide +kernel), ⟨by decide +kernel, by decide +kernel, by decide +kernel⟩⟩
theorem lh_L_294 : ow_lh RL 294 yL_stateOf cL_stateOf 4 (some .int) [(0, 9, 12, 31)] 3 := ⟨ow_T_in 1450 (by decide +kernel) (by decide +kernel), ow_T_in 1451 (by decide +kernel) (by decide +kernel), ow_T_in 0 (by decide +kernel) (by decide +kernel), ow_T_in 1452 (by decide +kernel) (by decide +kernel), ⟨by decide +kernel, by decide +kernel, by decide +kernel⟩⟩
theorem lh_L_297 : ow_lh RL 297 yL_returns cL_returns 4 (some .int) [(0, 9, 12, 31)] 3 := ⟨ow_T_in 1457 (by decide +kernel) (by decide +kernel), ow_T_in 1458 (by decide +kernel) (by decide +kernel), ow_T_in 0 (by decide +kernel) (by decide +kernel), ow_T_in 1459 (by decide +kernel) (by decide +kernel), ⟨by decide +kernel, by decide +kernel, by decide +kernel⟩⟩
theorem lh_L_300 : ow_lh RL 300 yL_buyerOf cL_buyerOf 4 (some .int) [(0, 9, 12, 31)] 3 := ⟨ow_T_in 1464 (by decide +kernel) (by decide +kernel), ow_T_in 1465 (by decide +kernel) (by decide +kernel), ow_T_in 0 (by decide +kernel) (by decide +kernel), ow_T_in 1466 (by decide +kernel) (by decide +kernel), ⟨by decide +kernel, by decide +kernel, by decide +kernel⟩⟩
theorem lh_L_303 : ow_lh RL 303 yL_priceOf cL_priceOf 4 (some .int) [(0, 9, 12, 31)] 3 := ⟨ow_T_in 1471 (by decide +kernel) (by decide +kernel), ow_T_in 1472 (by decide +kernel) (by decide +kernel), ow_T_in 0 (by decide +kernel) (by decide +kernel), ow_T_in 1473 (by decide +kernel) (by decide +kernel), ⟨by decide +kernel, by decide +kernel, by decide +kernel⟩⟩
theorem lh_L_306 : ow_lh RL 306 yL_pricePerLength cL_pricePerLength 4 (some .int) [(0, 9, 12, 31)] 3 := ⟨ow_T_in 1478 (by decide +kernel) (by decide +kernel), ow_T_in 1479 (by decide +kernel) (by decide +kernel), ow_T_in 0 (by decide +kernel) (by decide +kernel), ow_T_in 1480 (by decide +kernel) (by decide +kernel), ⟨by decide +kernel, by decide +kernel, by decide +kernel⟩⟩
theorem lh_L_314 : ow_lh RL 314 yL_purse cL_purse 4 (some .int) [(0, 9, 12, 31)] 3 := ⟨ow_T_in 1485 (by decide +kernel) (by decide +kernel), ow_T_in 1486 (by decide +kernel) (by decide +kernel), ow_T_in 0 (by decide +kernel) (by decide +kernel), ow_T_in 1487 (by decide +kernel) (by decide +kernel), ⟨by decide +kernel, by decide +kernel, by decide +kernel⟩⟩
theorem lh_L_317 : ow_lh RL 317 yL_style cL_style 4 (some .int) [(0, 9, 12, 31)] 3 := ⟨ow_T_in 1496 (by decide +kernel) (by decide +kernel), ow_T_in 1497 (by decide +kernel) (by decide +kernel), ow_T_in 0 (by decide +kernel) (by decide +kernel), ow_T_in 1498 (by decide +kernel) (by decide +kernel), ⟨by decide +kernel, by decide +kernel, by decide +kernel⟩⟩
theorem lh_L_320 : ow_lh RL 320 yL_factor cL_factor 4 (some .int) [(0, 9, 12, 31)] 3 := ⟨ow_T_in 1503 (by decide +kernel) (by decide +kernel), ow_T_in 1504 (by decide +kernel) (by decide +kernel), ow_T_in 0 (by decide +kernel) (by decide +kernel), ow_T_in 1505 (by decide +kernel) (by decide +kernel), ⟨by decide +kernel, by decide +kernel, by decide +kernel⟩⟩
theorem lh_L_323 : ow_lh RL 323 yL_bought cL_bought 4 (some .int) [(0, 9, 12, 31)] 3 := ⟨ow_T_in 1510 (by decide +kernel) (by decide +kernel), ow_T_in 1511 (by decide +kernel) (by decide +kernel), ow_T_in 0 (by decide +kernel) (by decide +kernel), ow_T_in 1512 (by decide +kernel) (by decide +kernel), ⟨by decide +kernel, by decide +kernel, by decide +kernel⟩⟩
theorem lh_L_326 : ow_lh RL 326 yL_nods cL_nods 4 (some .int) [(0, 9, 12, 31)] 3 := ⟨ow_T_in 1517 (by decide +kernel) (by decide +kernel), ow_T_in 1518 (by decide +kernel) (by decide +kernel), ow_T_in 0 (by decide +kernel) (by decide +kernel), ow_T_in 1519 (by decide +kernel) (by decide +kernel), ⟨by decide +kernel, by decide +kernel, by decide +kernel⟩⟩
theorem lh_L_329 : ow_lh RL 329 yL_worth cL_worth 5 (some .int) [(0, 9, 12, 31)] 4 := ⟨ow_T_in 1524 (by decide +kernel) (by decide +kernel), ow_T_in 1525 (by decide +kernel) (by decide +kernel), ow_T_in 0 (by decide +kernel) (by decide +kernel), ow_T_in 1526 (by decide +kernel) (by decide +kernel), ⟨by decide +kernel, by decide +kernel, by decide +kernel⟩⟩
theorem lh_L_333 : ow_lh RL 333 yL_whyNotNod cL_whyNotNod 4 (some .int) [(0, 9, 12, 31)] 3 := ⟨ow_T_in 1532 (by decide +kernel) (by decide +kernel), ow_T_in 1533 (by decide +kernel) (by decide +kernel), ow_T_in 0 (by decide +kernel) (by decide +kernel), ow_T_in 1534 (by decide +kernel) (by decide +kernel), ⟨by decide +kernel, by decide +kernel, by decide +kernel⟩⟩
theorem lh_L_336 : ow_lh RL 336 yL_costOf cL_costOf 4 (some .int) [(0, 9, 12, 19)] 3 := ⟨ow_T_in 1539 (by decide +kernel) (by decide +kernel), ow_T_in 1540 (by decide +kernel) (by decide +kernel), ow_T_in 0 (by decide +kernel) (by decide +kernel), ow_T_in 1541 (by decide +kernel) (by decide +kernel), ⟨by decide +kernel, by decide +kernel, by decide +kernel⟩⟩
theorem lh_L_343 : ow_lh RL 343 yL_keenestBuyer cL_keenestBuyer 4 (some .int) [(0, 9, 12, 31)] 3 := ⟨ow_T_in 1547 (by decide +kernel) (by decide +kernel), ow_T_in 1548 (by decide +kernel) (by decide +kernel), ow_T_in 0 (by decide +kernel) (by decide +kernel), ow_T_in 1549 (by decide +kernel) (by decide +kernel), ⟨by decide +kernel, by decide +kernel, by decide +kernel⟩⟩
theorem lh_L_346 : ow_lh RL 346 yL_minutesToSale cL_minutesToSale 4 (some .int) [(0, 9, 12, 31)] 3 := ⟨ow_T_in 1558 (by decide +kernel) (by decide +kernel), ow_T_in 1559 (by decide +kernel) (by decide +kernel), ow_T_in 0 (by decide +kernel) (by decide +kernel), ow_T_in 1560 (by decide +kernel) (by decide +kernel), ⟨by decide +kernel, by decide +kernel, by decide +kernel⟩⟩
theorem lh_L_349 : ow_lh RL 349 yL_buyerAfter cL_buyerAfter 5 (some .int) [(0, 10, 13, 31), (0, 10, 17, 19)] 4 := ⟨ow_T_in 1565 (by decide +kernel) (by decide +kernel), ow_T_in 1566 (by decide +kernel) (by decide +kernel), ow_T_in 0 (by decide +kernel) (by decide +kernel), ow_T_in 1567 (by decide +kernel) (by decide +kernel), ⟨by decide +kernel, by decide +kernel, by decide +kernel⟩⟩
theorem lh_L_352 : ow_lh RL 352 yL_sellerCoinsAfter cL_sellerCoinsAfter 4 (some .int) [(0, 9, 12, 19)] 3 := ⟨ow_T_in 1576 (by decide +kernel) (by decide +kernel), ow_T_in 1577 (by decide +kernel) (by decide +kernel), ow_T_in 0 (by decide +kernel) (by decide +kernel), ow_T_in 1578 (by decide +kernel) (by decide +kernel), ⟨by decide +kernel, by decide +kernel, by decide +kernel⟩⟩
theorem lh_L_355 : ow_lh RL 355 yL_bestStep cL_bestStep 4 (some .int) [(0, 9, 12, 19)] 3 := ⟨ow_T_in 1583 (by decide +kernel) (by decide +kernel), ow_T_in 1584 (by decide +kernel) (by decide +kernel), ow_T_in 0 (by decide +kernel) (by decide +kernel), ow_T_in 1585 (by decide +kernel) (by decide +kernel), ⟨by decide +kernel, by decide +kernel, by decide +kernel⟩⟩
theorem lh_L_372 : ow_lh RL 372 yL_writeBarrel cL_writeBarrel 4 (some .int) [(0, 9, 12, 31)] 3 := ⟨ow_T_in 1590 (by decide +kernel) (by decide +kernel), ow_T_in 1591 (by decide +kernel) (by decide +kernel), ow_T_in 0 (by decide +kernel) (by decide +kernel), ow_T_in 1592 (by decide +kernel) (by decide +kernel), ⟨by decide +kernel, by decide +kernel, by decide +kernel⟩⟩
