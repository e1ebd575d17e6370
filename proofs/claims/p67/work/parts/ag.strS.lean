theorem lc_100_212 : ow_lc RX100 212 := ⟨ow_T_in 675 (by decide +kernel) (by decide +kernel), ow_T_in 621 (by decide +kernel) (by decide +kernel), ow_T_in 620 (by decide +kernel) (by decide +kernel), ow_T_in 21 (by decide +kernel) (by decide +kernel)⟩
/-! STRINGS: of the frame (its bytes beside it) or of the globals, with their text -/
def st_kf (a : Nat) : Nat → Option (Option Value) := fun k => match k with
  | 0 => some (some (.ref (a + 1)))
  | _ => none
def tf (a n : Nat) (t : Nat → Nat) (h : ow_H) : Prop := h.1 a = some (.inl (11, st_kf a)) ∧ h.2.1 a 1 = nI 0 ∧ h.1 (a + 1) = some (.inr (.byte, n, ow_n)) ∧ n ≤ 300 ∧ ∀ i, i < n → t i < 128 ∧ h.2.1 (a + 1) i = nI (t i)
def rs (Z : Nat → Nat) (a n : Nat) (t : Nat → Nat) (h : ow_H) : Prop := (∃ w, w < 10 ∧ a = Z w ∧ n = gl_len w ∧ t = gl_ch w) ∨ tf a n t h
def rb (Z : Nat → Nat) (b n : Nat) (t : Nat → Nat) (h : ow_H) : Prop := (∃ w, w < 10 ∧ b = Z (20 + w) ∧ n = gl_len w ∧ t = gl_ch w) ∨ (h.1 b = some (.inr (.byte, n, ow_n)) ∧ n ≤ 300 ∧ ∀ i, i < n → t i < 128 ∧ h.2.1 b i = nI (t i))
theorem gl_l3 {w : Nat} (h : w < 10) : gl_len w ≤ 300 := (by decide +kernel : ∀ w, w < 10 → gl_len w ≤ 300) w h
theorem rs_n {Z : Nat → Nat} {a n : Nat} {t : Nat → Nat} {h : ow_H} (r : rs Z a n t h) : n ≤ 300 := by
  rcases r with ⟨w, h1, -, rfl, -⟩ | r
  · exact gl_l3 h1
  · exact r.2.2.2.1
theorem rs_t {Z : Nat → Nat} {a n : Nat} {t : Nat → Nat} {h : ow_H} (r : rs Z a n t h) {i : Nat} (hi : i < n) : t i < 128 := by
  rcases r with ⟨w, h1, -, -, rfl⟩ | r
  · exact gl_cb _ _
  · exact (r.2.2.2.2 i hi).1
theorem rb_n {Z : Nat → Nat} {b n : Nat} {t : Nat → Nat} {h : ow_H} (r : rb Z b n t h) : n ≤ 300 := by
  rcases r with ⟨w, h1, -, rfl, -⟩ | r
  · exact gl_l3 h1
  · exact r.2.1
theorem rb_t {Z : Nat → Nat} {b n : Nat} {t : Nat → Nat} {h : ow_H} (r : rb Z b n t h) {i : Nat} (hi : i < n) : t i < 128 := by
  rcases r with ⟨w, h1, -, -, rfl⟩ | r
  · exact gl_cb _ _
  · exact (r.2.2 i hi).1
theorem by_f {c : Nat} (h : c < 128) : fits .byte (.int (nI c)) = true := (by decide +kernel : ∀ c, c < 128 → fits .byte (.int (nI c)) = true) c h
theorem by_b {c : Nat} (h : c < 128) : sb_b c = nI c := (by decide +kernel : ∀ c, c < 128 → sb_b c = nI c) c h
theorem by_c {c : Nat} (h : c < 128) : (nI c &&& nI 255) = nI c := (by decide +kernel : ∀ c, c < 128 → (nI c &&& nI 255) = nI c) c h
theorem by_cc {c : Nat} (h : c < 128) : ((nI c).toUInt32 % 65536).toInt32 = nI c := (by decide +kernel : ∀ c, c < 128 → ((nI c).toUInt32 % 65536).toInt32 = nI c) c h
def ow_lov (own : String) (idx : Nat) (x : MethodName) (C : String) (y : MethodName) (cy : ByteArray) (n : Nat) (ret : Option FieldType) (na : Nat) : Prop := Cond.methodLink own idx x ∈ ow_T ∧ Cond.sameMethod x.cls x.cls x.name x.desc ∈ ow_T ∧ Cond.instanceMethod x ∈ ow_T ∧ (∃ b0 m0 r0, Cond.code x b0 m0 r0 ∈ ow_T) ∧ Cond.selects C x y ∈ ow_T ∧ Cond.instanceMethod y ∈ ow_T ∧ Cond.initialized y.cls ∈ ow_T ∧ Cond.code y cy n ret ∈ ow_T ∧ ow_mx x na
section STW
variable {X : ow_X} {cs sl : Nat} {h : ow_H} {pc : Nat} {lv : List (Nat × Value)} {st : List Value} {own : String} {cc : ByteArray} {nL kR : Nat} {Z : Nat → Nat} {R0 : Room} {h0 : ow_H} {K : Nat → Option Value → ow_H → Prop} {mcR msR : Nat} {retR : Option FieldType} {nmR : String}
variable {y : MethodName} {cy : ByteArray} {n idx k mc ms na : Nat} {ret : Option FieldType} {Kc : Nat → Option Value → ow_H → Prop}
theorem rb_src {b n : Nat} {t : Nat → Nat} (G : og_G X Z) (r : rb Z b n t h) : og_src X h b n (fun j => nI (t j)) := by
  rcases r with ⟨w, h1, rfl, rfl, rfl⟩ | r
  · exact og_src_g (og_st (og_1 G h1))
  · obtain ⟨S, I, V, z⟩ := h
    exact og_src_f r.1 (fun _ _ => rfl) (Nat.le_refl _) (fun j hj => (r.2.2 j hj).2)
/-- a string's bytes -/
theorem or_rsv {a n : Nat} {t : Nat → Nat} (r : rs Z a n t h) (E : ow_E X own cc nL R0) (G : og_G X Z) (f : ow_fl own idx 11 0) (hw : Cond.fieldLink own idx "java/lang/String" "value" "[B" ∈ ow_T) (d : decode cc pc = .ok (.getfield idx, 3)) (kk : ∀ b, rb Z b n t h → ow_W X cs sl h (pc + 3) lv (.ref b :: st)) : ow_W X cs sl h pc lv (.ref a :: st) := by
  rcases r with ⟨w, h1, rfl, rfl, rfl⟩ | r
  · exact or_gf E (og_sv (og_1 G h1)) hw d (kk _ (Or.inl ⟨w, h1, rfl, rfl, rfl⟩))
  · exact or_getC (h := h) E f d r.1 rfl (kk _ (Or.inr ⟨r.2.2.1, r.2.2.2.1, r.2.2.2.2⟩))
theorem or_rsc {a n : Nat} {t : Nat → Nat} (r : rs Z a n t h) (E : ow_E X own cc nL R0) (G : og_G X Z) (f : ow_fl own idx 11 1) (hw : Cond.fieldLink own idx "java/lang/String" "coder" "B" ∈ ow_T) (d : decode cc pc = .ok (.getfield idx, 3)) (kk : ow_W X cs sl h (pc + 3) lv (.int (nI 0) :: st)) : ow_W X cs sl h pc lv (.ref a :: st) := by
  rcases r with ⟨w, h1, rfl, rfl, rfl⟩ | r
  · exact or_gf E (og_sz (og_1 G h1)) hw d kk
  · exact or_getI (h := h) E f d r.1 rfl (by rw [r.2.1]; exact kk)
theorem or_rlen {b n : Nat} {t : Nat → Nat} (r : rb Z b n t h) (E : ow_E X own cc nL R0) (G : og_G X Z) (d : decode cc pc = .ok (.arraylength, 1)) (kk : ow_W X cs sl h (pc + 1) lv (.int (nI n) :: st)) : ow_W X cs sl h pc lv (.ref b :: st) := by
  rcases r with ⟨w, h1, rfl, rfl, rfl⟩ | r
  · exact or_glen E (og_st (og_1 G h1)) d kk
  · obtain ⟨S, I, V, z⟩ := h
    exact or_alen E d r.1 kk
theorem or_rbl {b n j : Nat} {t : Nat → Nat} (r : rb Z b n t h) (hj : j < n) (E : ow_E X own cc nL R0) (G : og_G X Z) (d : decode cc pc = .ok (.baload, 1)) (kk : ow_W X cs sl h (pc + 1) lv (.int (nI (t j)) :: st)) : ow_W X cs sl h pc lv (.int (nI j) :: .ref b :: st) := by
  have hn := rb_n r
  rcases r with ⟨w, h1, rfl, rfl, rfl⟩ | r
  · exact or_gba (j := j) E (og_st (og_1 G h1)) hj (by omega) d kk
  · obtain ⟨S, I, V, z⟩ := h
    refine ot_bald (j := j) E d r.1 rfl rfl hj (by omega) ?_
    rw [(r.2.2 j hj).2]
    exact kk
theorem or_rV {a n1 : Nat} {t : Nat → Nat} (As : List Value) (r : rs Z a n1 t h) (hC : ow_Cx Z y cy n ret k mc ms (.ref a :: As) h Kc) (E : ow_E X own cc nL (ow_rm kR mcR msR)) (G : og_G X Z) (F : ox_F X h0 K mcR msR retR nmR) (L : ow_lv own idx y cy n ret na) (d : decode cc pc = .ok (.invokevirtual idx, 3)) (hy : RJ0 = y.cls)
    (hn : As.length = na) (hk : k + 1 ≤ kR) (hn2 : n ≤ 20) (hm : cs + mc ≤ mcR ∧ sl + ms ≤ msR) (hst : (st.map fun v => v.category).sum ≤ 8)
    (kk : ∀ (r : Option Value) (h1 : ow_H), Kc 0 r h1 → ow_W X (cs + mc) (sl + ms) h1 (pc + 3) lv (r.toList ++ st)) (kx : ∀ (c' : Nat) (h1 : ow_H), 0 < c' → Kc c' none h1 → K c' none h1) : ow_W X cs sl h pc lv (As.reverse ++ .ref a :: st) := by
  rcases r with ⟨w, h1, rfl, rfl, rfl⟩ | r
  · exact or_xVg As hC E G F L d (by rw [← hy]; exact og_so (og_1 G h1)) hn hk hn2 hm hst kk kx
  · exact or_xV As hC E G F L d r.1 rfl hy hn hk hn2 hm hst kk kx
theorem or_rV0 {a n1 : Nat} {t : Nat → Nat} (r : rs Z a n1 t h) (hC : ow_Cx Z y cy n ret k mc ms [.ref a] h Kc) (E : ow_E X own cc nL (ow_rm kR mcR msR)) (G : og_G X Z) (F : ox_F X h0 K mcR msR retR nmR) (L : ow_lv own idx y cy n ret 0) (d : decode cc pc = .ok (.invokevirtual idx, 3)) (hy : RJ0 = y.cls)
    (hk : k + 1 ≤ kR) (hn2 : n ≤ 20) (hm : cs + mc ≤ mcR ∧ sl + ms ≤ msR) (hst : (st.map fun v => v.category).sum ≤ 8)
    (kk : ∀ (r : Option Value) (h1 : ow_H), Kc 0 r h1 → ow_W X (cs + mc) (sl + ms) h1 (pc + 3) lv (r.toList ++ st)) (kx : ∀ (c' : Nat) (h1 : ow_H), 0 < c' → Kc c' none h1 → K c' none h1) : ow_W X cs sl h pc lv (.ref a :: st) := or_rV [] r hC E G F L d hy rfl hk hn2 hm hst kk kx
theorem or_rV1 {a n1 : Nat} {t : Nat → Nat} {x0 : Value} (r : rs Z a n1 t h) (hC : ow_Cx Z y cy n ret k mc ms [.ref a, x0] h Kc) (E : ow_E X own cc nL (ow_rm kR mcR msR)) (G : og_G X Z) (F : ox_F X h0 K mcR msR retR nmR) (L : ow_lv own idx y cy n ret 1) (d : decode cc pc = .ok (.invokevirtual idx, 3)) (hy : RJ0 = y.cls)
    (hk : k + 1 ≤ kR) (hn2 : n ≤ 20) (hm : cs + mc ≤ mcR ∧ sl + ms ≤ msR) (hst : (st.map fun v => v.category).sum ≤ 8)
    (kk : ∀ (r : Option Value) (h1 : ow_H), Kc 0 r h1 → ow_W X (cs + mc) (sl + ms) h1 (pc + 3) lv (r.toList ++ st)) (kx : ∀ (c' : Nat) (h1 : ow_H), 0 < c' → Kc c' none h1 → K c' none h1) : ow_W X cs sl h pc lv (x0 :: .ref a :: st) := or_rV [x0] r hC E G F L d hy rfl hk hn2 hm hst kk kx
theorem or_rV3 {a n1 : Nat} {t : Nat → Nat} {x0 x1 x2 : Value} (r : rs Z a n1 t h) (hC : ow_Cx Z y cy n ret k mc ms [.ref a, x0, x1, x2] h Kc) (E : ow_E X own cc nL (ow_rm kR mcR msR)) (G : og_G X Z) (F : ox_F X h0 K mcR msR retR nmR) (L : ow_lv own idx y cy n ret 3) (d : decode cc pc = .ok (.invokevirtual idx, 3)) (hy : RJ0 = y.cls)
    (hk : k + 1 ≤ kR) (hn2 : n ≤ 20) (hm : cs + mc ≤ mcR ∧ sl + ms ≤ msR) (hst : (st.map fun v => v.category).sum ≤ 8)
    (kk : ∀ (r : Option Value) (h1 : ow_H), Kc 0 r h1 → ow_W X (cs + mc) (sl + ms) h1 (pc + 3) lv (r.toList ++ st)) (kx : ∀ (c' : Nat) (h1 : ow_H), 0 < c' → Kc c' none h1 → K c' none h1) : ow_W X cs sl h pc lv (x2 :: x1 :: x0 :: .ref a :: st) := or_rV [x0, x1, x2] r hC E G F L d hy rfl hk hn2 hm hst kk kx
/-- an overriding method -/
theorem or_kO0 {b ci : Nat} {κ : Nat → Option (Option Value)} {r0 : vw_C} {x : MethodName} (hC : ow_Cx Z y cy n ret k mc ms [.ref b] h Kc) (E : ow_E X own cc nL (ow_rm kR mcR msR)) (G : og_G X Z) (F : ox_F X h0 K mcR msR retR nmR) (L : ow_lov own idx x r0.1 y cy n ret 0) (d : decode cc pc = .ok (.invokevirtual idx, 3)) (hS : h.1 b = some (.inl (ci, κ))) (hc : ow_cl[ci]? = some r0)
    (hk : k + 1 ≤ kR) (hn2 : n ≤ 20) (hm : cs + mc ≤ mcR ∧ sl + ms ≤ msR) (hst : (st.map fun v => v.category).sum ≤ 8)
    (kk : ∀ (r : Option Value) (h1 : ow_H), Kc 0 r h1 → ow_W X (cs + mc) (sl + ms) h1 (pc + 3) lv (r.toList ++ st)) (kx : ∀ (c' : Nat) (h1 : ow_H), 0 < c' → Kc c' none h1 → K c' none h1) : ow_W X cs sl h pc lv (.ref b :: st) := by
  obtain ⟨p, l, e, R, s, m, args, below, meth, c, Q, D, A⟩ := X
  obtain ⟨hx, hb, hown, hts, hK, hA, hml, rfl⟩ := E
  obtain ⟨w1, w2, w3, ⟨b0, m0, q0, w4⟩, w5, w6, w7, w8, w9⟩ := L
  intro H locs ls hR hD hSS hl
  have cw : va_CU (ow_rm kR mcR msR) s args own r0.1 x.cls idx x y cy n ret (Cond.code y cy n ret :: ow_T) (ow_rm k mc ms) mc ms 0 := by
    refine ⟨⟨rfl, rfl, hk, by show 8 + (n + 11) + 40 * k ≤ 40 * kR; omega, pay_in hts (ow_good_code w8), List.mem_cons_self⟩, hts _ w8, hts _ w7, ⟨w9.1, w9.2.1⟩, fun sig hs => ?_, hts _ w1, hts _ w2, va_Decl.of (hts _ w3) (hts _ w4), hts _ w5, hts _ w6⟩
    have h2 := w9.2.2
    rw [hs] at h2
    exact (Option.some.inj h2).symm
  exact ox_after F hR hD hA hSS hl hm (vx_runU (As := []) (rest := st) ⟨hx, hb, rfl, hown, hts⟩ (hC l D G.2) cw ⟨ox_Pc_blind Z D _ h, ow_recv hK hR hS hc, fun U hU hW => ⟨⟨rfl, by rw [hU]; exact hR.moved hW.alike, va_K.moved hW.alike hK⟩, ox_gl G.1 hR hD hA hSS hU hW⟩⟩ rfl rfl hl.1 rfl (lv_room hst) d hm) kk kx
end STW
theorem fs_100_9 : ow_fl RX100 9 11 0 := ⟨_, rfl, by decide, ow_T_in 750 (by decide +kernel) (by decide +kernel), ow_ok11⟩
theorem fs_100_15 : ow_fl RX100 15 11 1 := ⟨_, rfl, by decide, ow_T_in 751 (by decide +kernel) (by decide +kernel), ow_ok11⟩
set_option maxRecDepth 100000 in
set_option maxHeartbeats 400000 in
theorem cj0_coderR {Z : Nat → Nat} {S : Nat → Option ow_Sh} {I : ow_I} {V : Nat → Nat → Value} {z a n : Nat} {t : Nat → Nat} (hr : rs Z a n t (S, I, V, z)) : ow_Cx Z yJ0_coder_7d493 cJ0_coder_7d493 1 (some .byte) 0 0 0 [.ref a] (S, I, V, z) (ox_s S V z 0 (some (.int (nI 0))) I) := by
  refine ow_Cx.off rfl (Nat.le_of_ble_eq_true rfl) (fun X K E G F hk => ?_)
  have E : ow_E X RX100 cJ0_coder_7d493 1 (ow_rm 0 0 0) := E
  refine or_lv [(0, .ref a)] rfl ?_
  refine or_gs E (og_cz G) wt_372 dJ0_coder_7d493_0 ?_
  refine or_if_eqN (a := 1) 13 E dJ0_coder_7d493_3 rfl (by decide) (fun q => absurd q (by decide)) (fun _ => ?_)
  refine or_aload_n E rfl dJ0_coder_7d493_6 ?_
  refine or_rsc hr E G fs_100_15 (ow_T_in 751 (by decide +kernel) (by decide +kernel)) dJ0_coder_7d493_7 ?_
  refine or_goto 14 E dJ0_coder_7d493_10 rfl ?_
  exact or_xr E F (fun X' E' F' => or_nret E' F' dJ0_coder_7d493_14 (Nat.le_of_ble_eq_true rfl) (Nat.le_of_ble_eq_true rfl) (by decide) (hk.1 rfl))
set_option maxRecDepth 100000 in
set_option maxHeartbeats 400000 in
theorem cj0_isLatin1R {Z : Nat → Nat} {S : Nat → Option ow_Sh} {I : ow_I} {V : Nat → Nat → Value} {z a n : Nat} {t : Nat → Nat} (hr : rs Z a n t (S, I, V, z)) : ow_Cx Z yJ0_isLatin1_aae02 cJ0_isLatin1_aae02 1 (some .boolean) 0 0 0 [.ref a] (S, I, V, z) (ox_s S V z 0 (some (.int (bi true))) I) := by
  refine ow_Cx.off rfl (Nat.le_of_ble_eq_true rfl) (fun X K E G F hk => ?_)
  have E : ow_E X RX100 cJ0_isLatin1_aae02 1 (ow_rm 0 0 0) := E
  refine or_lv [(0, .ref a)] rfl ?_
  refine or_gs E (og_cz G) wt_372 dJ0_isLatin1_aae02_0 ?_
  refine or_if_eqN (a := 1) 17 E dJ0_isLatin1_aae02_3 rfl (by decide) (fun q => absurd q (by decide)) (fun _ => ?_)
  refine or_aload_n E rfl dJ0_isLatin1_aae02_6 ?_
  refine or_rsc hr E G fs_100_15 (ow_T_in 751 (by decide +kernel) (by decide +kernel)) dJ0_isLatin1_aae02_7 ?_
  refine or_if_neN (a := 0) 17 E dJ0_isLatin1_aae02_10 rfl (by decide) (fun q => absurd rfl q) (fun _ => ?_)
  refine or_iconst (v := nI 1) E rfl dJ0_isLatin1_aae02_13 ?_
  refine or_goto 18 E dJ0_isLatin1_aae02_14 rfl ?_
  exact or_xr E F (fun X' E' F' => or_zret E' F' dJ0_isLatin1_aae02_18 (Nat.le_of_ble_eq_true rfl) (Nat.le_of_ble_eq_true rfl) (bi_nar true) (hk.1 rfl))
set_option maxRecDepth 100000 in
set_option maxHeartbeats 400000 in
theorem cj0_lengthR {Z : Nat → Nat} {S : Nat → Option ow_Sh} {I : ow_I} {V : Nat → Nat → Value} {z a n : Nat} {t : Nat → Nat} (hr : rs Z a n t (S, I, V, z)) : ow_Cx Z yJ0_length_8abf5 cJ0_length_8abf5 1 (some .int) 1 0 0 [.ref a] (S, I, V, z) (ox_s S V z 0 (some (.int (nI n))) I) := by
  refine ow_Cx.off rfl (Nat.le_of_ble_eq_true rfl) (fun X K E G F hk => ?_)
  have E : ow_E X RX100 cJ0_length_8abf5 1 (ow_rm 1 0 0) := E
  refine or_lv [(0, .ref a)] rfl ?_
  refine or_aload_n E rfl dJ0_length_8abf5_0 ?_
  refine or_rsv hr E G fs_100_9 (ow_T_in 750 (by decide +kernel) (by decide +kernel)) dJ0_length_8abf5_1 (fun b hb => ?_)
  refine or_rlen hb E G dJ0_length_8abf5_4 ?_
  refine or_aload_n E rfl dJ0_length_8abf5_5 ?_
  refine or_rV0 hr (cj0_coderR (Z := Z) hr) E G F lk_100_335 dJ0_length_8abf5_6 rfl (by decide) (by decide) ⟨by omega, by omega⟩ (Nat.le_of_ble_eq_true rfl) (fun r h1 q => ?_) (fun c' h1 hc' q => absurd q.1 (Nat.pos_iff_ne_zero.mp hc'))
  obtain ⟨rfl, rfl⟩ := q.2.1 rfl
  refine or_ishr E dJ0_length_8abf5_9 ?_
  refine or_top (y := nI n) (sb_shr0 _) ?_
  exact or_xr E F (fun X' E' F' => or_iret E' F' dJ0_length_8abf5_10 (Nat.le_of_ble_eq_true rfl) (Nat.le_of_ble_eq_true rfl) (hk.1 rfl))
set_option maxRecDepth 100000 in
set_option maxHeartbeats 400000 in
theorem cj1_charAtR {Z : Nat → Nat} {S : Nat → Option ow_Sh} {I : ow_I} {V : Nat → Nat → Value} {z b n i : Nat} {t : Nat → Nat} (hb : rb Z b n t (S, I, V, z)) (hi : i < n) : ow_Cx Z yJ1_charAt_3b067 cJ1_charAt_3b067 2 (some .char) 3 0 0 [.ref b, .int (nI i)] (S, I, V, z) (ox_s S V z 0 (some (.int (nI (t i)))) I) := by
  refine ow_Cx.off rfl (Nat.le_of_ble_eq_true rfl) (fun X K E G F hk => ?_)
  have E : ow_E X RX101 cJ1_charAt_3b067 2 (ow_rm 3 0 0) := E
  refine or_lv [(0, .ref b), (1, .int (nI i))] rfl ?_
  have hn := rb_n hb
  have ht := rb_t hb hi
  refine or_iload_n E rfl dJ1_charAt_3b067_0 ?_
  refine or_aload_n E rfl dJ1_charAt_3b067_1 ?_
  refine or_rlen hb E G dJ1_charAt_3b067_2 ?_
  refine or_fT2v (cj0_checkIndex_df160 (Z := Z) hi (by omega)) E G F lk_101_9 dJ1_charAt_3b067_3 (by decide) (by decide) ⟨by omega, by omega⟩ (Nat.le_of_ble_eq_true rfl) (fun _ => ?_) (fun h => absurd h (Nat.lt_irrefl 0))
  refine or_aload_n E rfl dJ1_charAt_3b067_6 ?_
  refine or_iload_n E rfl dJ1_charAt_3b067_7 ?_
  refine or_rbl hb hi E G dJ1_charAt_3b067_8 ?_
  refine or_sipush (v := nI 255) E rfl dJ1_charAt_3b067_9 ?_
  refine or_iand E dJ1_charAt_3b067_12 ?_
  refine or_top (y := nI (t i)) (by_c ht) ?_
  refine or_i2c (v := nI (t i)) E (by_cc ht) dJ1_charAt_3b067_13 ?_
  exact or_xr E F (fun X' E' F' => or_nret E' F' dJ1_charAt_3b067_14 (Nat.le_of_ble_eq_true rfl) (Nat.le_of_ble_eq_true rfl) (nar_c (by omega)) (hk.1 rfl))
set_option maxRecDepth 100000 in
set_option maxHeartbeats 400000 in
theorem cj0_charAtR {Z : Nat → Nat} {S : Nat → Option ow_Sh} {I : ow_I} {V : Nat → Nat → Value} {z a n i : Nat} {t : Nat → Nat} (hr : rs Z a n t (S, I, V, z)) (hi : i < n) : ow_Cx Z yJ0_charAt_5068e cJ0_charAt_5068e 2 (some .char) 4 0 0 [.ref a, .int (nI i)] (S, I, V, z) (ox_s S V z 0 (some (.int (nI (t i)))) I) := by
  refine ow_Cx.off rfl (Nat.le_of_ble_eq_true rfl) (fun X K E G F hk => ?_)
  have E : ow_E X RX100 cJ0_charAt_5068e 2 (ow_rm 4 0 0) := E
  refine or_lv [(0, .ref a), (1, .int (nI i))] rfl ?_
  have ht := rs_t hr hi
  refine or_aload_n E rfl dJ0_charAt_5068e_0 ?_
  refine or_rV0 hr (cj0_isLatin1R (Z := Z) hr) E G F lk_100_492 dJ0_charAt_5068e_1 rfl (by decide) (by decide) ⟨by omega, by omega⟩ (Nat.le_of_ble_eq_true rfl) (fun r h1 q => ?_) (fun c' h1 hc' q => absurd q.1 (Nat.pos_iff_ne_zero.mp hc'))
  obtain ⟨rfl, rfl⟩ := q.2.1 rfl
  refine or_if_eqZ (b := true) 16 E dJ0_charAt_5068e_4 rfl (fun q => absurd q (by decide)) (fun _ => ?_)
  refine or_aload_n E rfl dJ0_charAt_5068e_7 ?_
  refine or_rsv hr E G fs_100_9 (ow_T_in 750 (by decide +kernel) (by decide +kernel)) dJ0_charAt_5068e_8 (fun b hb => ?_)
  refine or_iload_n E rfl dJ0_charAt_5068e_11 ?_
  refine or_fT2r (cj1_charAtR (Z := Z) hb hi) E G F lk_100_495 dJ0_charAt_5068e_12 (by decide) (by decide) ⟨by omega, by omega⟩ (Nat.le_of_ble_eq_true rfl) (fun _ => ?_) (fun h => absurd h (Nat.lt_irrefl 0))
  exact or_xr E F (fun X' E' F' => or_nret E' F' dJ0_charAt_5068e_15 (Nat.le_of_ble_eq_true rfl) (Nat.le_of_ble_eq_true rfl) (nar_c (by omega)) (hk.1 rfl))
set_option maxRecDepth 100000 in
set_option maxHeartbeats 400000 in
theorem cj0_getBytesR {Z : Nat → Nat} {S : Nat → Option ow_Sh} {I : ow_I} {V : Nat → Nat → Value} {z a n b dp m : Nat} {t : Nat → Nat} (hr : rs Z a n t (S, I, V, z)) (hB : S b = some (.inr (.byte, m, ow_n))) (hd : dp + n ≤ m) (hm : m ≤ 602) : ow_Cx Z yJ0_getBytes_840e7 cJ0_getBytes_840e7 4 none 1 0 0 [.ref a, .ref b, .int (nI dp), .int (nI 0)] (S, I, V, z) (ox_s S V z 0 none (ow_wr I b dp n (fun j => nI (t j)))) := by
  refine ow_Cx.off rfl (Nat.le_of_ble_eq_true rfl) (fun X K E G F hk => ?_)
  have E : ow_E X RX100 cJ0_getBytes_840e7 4 (ow_rm 1 0 0) := E
  refine or_lv [(0, .ref a), (1, .ref b), (2, .int (nI dp)), (3, .int (nI 0))] rfl ?_
  refine or_aload_n E rfl dJ0_getBytes_840e7_0 ?_
  refine or_rV0 hr (cj0_coderR (Z := Z) hr) E G F lk_100_335 dJ0_getBytes_840e7_1 rfl (by decide) (by decide) ⟨by omega, by omega⟩ (Nat.le_of_ble_eq_true rfl) (fun r h1 q => ?_) (fun c' h1 hc' q => absurd q.1 (Nat.pos_iff_ne_zero.mp hc'))
  obtain ⟨rfl, rfl⟩ := q.2.1 rfl
  refine or_iload_n E rfl dJ0_getBytes_840e7_4 ?_
  refine or_icmp_neN 28 E dJ0_getBytes_840e7_5 rfl (by decide) (by decide) (fun q => absurd rfl q) (fun _ => ?_)
  refine or_aload_n E rfl dJ0_getBytes_840e7_8 ?_
  refine or_rsv hr E G fs_100_9 (ow_T_in 750 (by decide +kernel) (by decide +kernel)) dJ0_getBytes_840e7_9 (fun b1 hb1 => ?_)
  refine or_iconst (v := nI 0) E rfl dJ0_getBytes_840e7_12 ?_
  refine or_aload_n E rfl dJ0_getBytes_840e7_13 ?_
  refine or_iload_n E rfl dJ0_getBytes_840e7_14 ?_
  refine or_iload_n E rfl dJ0_getBytes_840e7_15 ?_
  refine or_ishl E dJ0_getBytes_840e7_16 ?_
  refine or_top (y := nI dp) (sb_shl0 _) ?_
  refine or_aload_n E rfl dJ0_getBytes_840e7_17 ?_
  refine or_rsv hr E G fs_100_9 (ow_T_in 750 (by decide +kernel) (by decide +kernel)) dJ0_getBytes_840e7_18 (fun b2 hb2 => ?_)
  refine or_rlen hb2 E G dJ0_getBytes_840e7_21 ?_
  refine or_wcopy E lc_100_212 dJ0_getBytes_840e7_22 (rb_src G hb1) hB (fun _ _ => rfl) hd (by omega) (fun j hj => by_f (rb_t hb1 hj)) ⟨(Nat.le_of_ble_eq_true rfl), (Nat.le_of_ble_eq_true rfl)⟩ ?_
  refine or_goto 43 E dJ0_getBytes_840e7_25 rfl ?_
  exact or_xr E F (fun X' E' F' => or_vret E' F' dJ0_getBytes_840e7_43 (Nat.le_of_ble_eq_true rfl) (Nat.le_of_ble_eq_true rfl) (hk.1 rfl))
