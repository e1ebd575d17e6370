theorem lc_100_212 : ow_lc RX100 212 := ⟨ow_T_in 675 (by decide +kernel) (by decide +kernel), ow_T_in 621 (by decide +kernel) (by decide +kernel), ow_T_in 620 (by decide +kernel) (by decide +kernel), ow_T_in 21 (by decide +kernel) (by decide +kernel)⟩
theorem lk_105_32 : ow_lv RX105 32 yJ0_length_8abf5 cJ0_length_8abf5 1 (some .int) 0 := ⟨ow_T_in 642 (by decide +kernel) (by decide +kernel), ow_T_in 365 (by decide +kernel) (by decide +kernel), ow_T_in 366 (by decide +kernel) (by decide +kernel), ow_T_in 14 (by decide +kernel) (by decide +kernel), ow_T_in 367 (by decide +kernel) (by decide +kernel), ⟨by decide +kernel, by decide +kernel, by decide +kernel⟩⟩
theorem lk_105_40 : ow_lv RX105 40 yJ0_coder_7d493 cJ0_coder_7d493 1 (some .byte) 0 := ⟨ow_T_in 651 (by decide +kernel) (by decide +kernel), ow_T_in 369 (by decide +kernel) (by decide +kernel), ow_T_in 370 (by decide +kernel) (by decide +kernel), ow_T_in 14 (by decide +kernel) (by decide +kernel), ow_T_in 371 (by decide +kernel) (by decide +kernel), ⟨by decide +kernel, by decide +kernel, by decide +kernel⟩⟩
theorem lk_105_399 : ow_lv RX105 399 yJ0_getBytes_840e7 cJ0_getBytes_840e7 4 none 3 := ⟨ow_T_in 671 (by decide +kernel) (by decide +kernel), ow_T_in 672 (by decide +kernel) (by decide +kernel), ow_T_in 673 (by decide +kernel) (by decide +kernel), ow_T_in 14 (by decide +kernel) (by decide +kernel), ow_T_in 674 (by decide +kernel) (by decide +kernel), ⟨by decide +kernel, by decide +kernel, by decide +kernel⟩⟩
theorem lk_107_339 : ow_lt RX107 339 yJ7_copyOfRangeByte_39247 cJ7_copyOfRangeByte_39247 5 (some (.array .byte)) 3 := ⟨ow_T_in 734 (by decide +kernel) (by decide +kernel), ow_T_in 735 (by decide +kernel) (by decide +kernel), ow_T_in 20 (by decide +kernel) (by decide +kernel), ow_T_in 736 (by decide +kernel) (by decide +kernel), ⟨by decide +kernel, by decide +kernel, by decide +kernel⟩⟩
theorem lk_107_343 : ow_lt RX107 343 yJ7_checkLength_df160 cJ7_checkLength_df160 2 none 2 := ⟨ow_T_in 737 (by decide +kernel) (by decide +kernel), ow_T_in 738 (by decide +kernel) (by decide +kernel), ow_T_in 20 (by decide +kernel) (by decide +kernel), ow_T_in 739 (by decide +kernel) (by decide +kernel), ⟨by decide +kernel, by decide +kernel, by decide +kernel⟩⟩
section SBW2
variable {X : ow_X} {cs sl : Nat} {pc : Nat} {lv : List (Nat × Value)} {st : List Value} {own : String} {cc : ByteArray} {nL : Nat} {Z : Nat → Nat} {h h0 : ow_H} {K : Nat → Option Value → ow_H → Prop} {kR mcR msR : Nat} {retR : Option FieldType} {nmR : String}
variable {y : MethodName} {cy : ByteArray} {n idx k mc ms : Nat} {ret : Option FieldType} {Kc : Nat → Option Value → ow_H → Prop} {b ci : Nat} {κ : Nat → Option (Option Value)} {r0 : vw_C}
theorem or_kD2 {x0 x1 : Value} (hC : ow_Cx Z y cy n ret k mc ms [.ref b, x0, x1] h Kc) (E : ow_E X own cc nL (ow_rm kR mcR msR)) (G : og_G X Z) (F : ox_F X h0 K mcR msR retR nmR) (L : ow_ld own idx y cy n ret 2) (d : decode cc pc = .ok (.invokevirtual idx, 3)) (hS : h.1 b = some (.inl (ci, κ))) (hc : ow_cl[ci]? = some r0) (hsel : ow_sel r0.1 y) (hk : k + 1 ≤ kR) (hn2 : n ≤ 20) (hm : cs + mc ≤ mcR ∧ sl + ms ≤ msR) (hst : (st.map fun v => v.category).sum ≤ 8) (kk : ∀ (r : Option Value) (h1 : ow_H), Kc 0 r h1 → ow_W X (cs + mc) (sl + ms) h1 (pc + 3) lv (r.toList ++ st)) (kx : ∀ (c' : Nat) (h1 : ow_H), 0 < c' → Kc c' none h1 → K c' none h1) : ow_W X cs sl h pc lv (x1 :: x0 :: .ref b :: st) := or_xVd [x0, x1] hC E G F L d hS hc hsel rfl hk hn2 hm hst kk kx
theorem or_kT2 {x0 x1 : Value} (hC : ow_Cx Z y cy n ret k mc ms [x0, x1] h Kc) (E : ow_E X own cc nL (ow_rm kR mcR msR)) (G : og_G X Z) (F : ox_F X h0 K mcR msR retR nmR) (L : ow_lt own idx y cy n ret 2) (d : decode cc pc = .ok (.invokestatic idx, 3)) (hk : k + 1 ≤ kR) (hn2 : n ≤ 20) (hm : cs + mc ≤ mcR ∧ sl + ms ≤ msR) (hst : (st.map fun v => v.category).sum ≤ 8) (kk : ∀ (r : Option Value) (h1 : ow_H), Kc 0 r h1 → ow_W X (cs + mc) (sl + ms) h1 (pc + 3) lv (r.toList ++ st)) (kx : ∀ (c' : Nat) (h1 : ow_H), 0 < c' → Kc c' none h1 → K c' none h1) : ow_W X cs sl h pc lv (x1 :: x0 :: st) := or_xT [x0, x1] hC E G F L d rfl hk hn2 hm hst kk kx
end SBW2
/-! STRINGS: of the frame (its bytes beside it) or of the globals, with their text -/
def st_kf (a : Nat) : Nat → Option (Option Value) := fun k => match k with
  | 0 => some (some (.ref (a + 1)))
  | _ => none
def tf (a n : Nat) (t : Nat → Nat) (h : ow_H) : Prop := h.1 a = some (.inl (11, st_kf a)) ∧ h.2.1 a 1 = nI 0 ∧ h.1 (a + 1) = some (.inr (.byte, n, ow_n)) ∧ n ≤ 300 ∧ ∀ i, i < n → t i < 128 ∧ h.2.1 (a + 1) i = nI (t i)
def rs (Z : Nat → Nat) (a n : Nat) (t : Nat → Nat) (h : ow_H) : Prop := (∃ w, w < 10 ∧ a = Z w ∧ n = gl_len w ∧ t = gl_ch w) ∨ tf a n t h
def ryb (Z : Nat → Nat) (b n : Nat) (t : Nat → Nat) (h : ow_H) : Prop := (∃ w, w < 10 ∧ b = Z (20 + w) ∧ n = gl_len w ∧ t = gl_ch w) ∨ (h.1 b = some (.inr (.byte, n, ow_n)) ∧ n ≤ 300 ∧ ∀ i, i < n → t i < 128 ∧ h.2.1 b i = nI (t i))
theorem gl_l3 {w : Nat} (h : w < 10) : gl_len w ≤ 300 := (by decide +kernel : ∀ w, w < 10 → gl_len w ≤ 300) w h
theorem rs_n {Z : Nat → Nat} {a n : Nat} {t : Nat → Nat} {h : ow_H} (r : rs Z a n t h) : n ≤ 300 := by
  rcases r with ⟨w, h1, -, rfl, -⟩ | r
  · exact gl_l3 h1
  · exact r.2.2.2.1
theorem rs_t {Z : Nat → Nat} {a n : Nat} {t : Nat → Nat} {h : ow_H} (r : rs Z a n t h) {i : Nat} (hi : i < n) : t i < 128 := by
  rcases r with ⟨w, h1, -, -, rfl⟩ | r
  · exact gl_cb _ _
  · exact (r.2.2.2.2 i hi).1
theorem ryb_n {Z : Nat → Nat} {b n : Nat} {t : Nat → Nat} {h : ow_H} (r : ryb Z b n t h) : n ≤ 300 := by
  rcases r with ⟨w, h1, -, rfl, -⟩ | r
  · exact gl_l3 h1
  · exact r.2.1
theorem ryb_t {Z : Nat → Nat} {b n : Nat} {t : Nat → Nat} {h : ow_H} (r : ryb Z b n t h) {i : Nat} (hi : i < n) : t i < 128 := by
  rcases r with ⟨w, h1, -, -, rfl⟩ | r
  · exact gl_cb _ _
  · exact (r.2.2 i hi).1
theorem by_f {c : Nat} (h : c < 128) : fits .byte (.int (nI c)) = true := (by decide +kernel : ∀ c, c < 128 → fits .byte (.int (nI c)) = true) c h
theorem by_b {c : Nat} (h : c < 128) : sb_b c = nI c := (by decide +kernel : ∀ c, c < 128 → sb_b c = nI c) c h
theorem by_c {c : Nat} (h : c < 128) : (nI c &&& nI 255) = nI c := (by decide +kernel : ∀ c, c < 128 → (nI c &&& nI 255) = nI c) c h
theorem by_cc {c : Nat} (h : c < 128) : ((nI c).toUInt32 % 65536).toInt32 = nI c := (by decide +kernel : ∀ c, c < 128 → ((nI c).toUInt32 % 65536).toInt32 = nI c) c h
def ow_lov (own : String) (idx : Nat) (x : MethodName) (C : String) (y : MethodName) (cy : ByteArray) (n : Nat) (ret : Option FieldType) (na : Nat) : Prop := Cond.methodLink own idx x ∈ ow_T ∧ Cond.sameMethod x.cls x.cls x.name x.desc ∈ ow_T ∧ Cond.instanceMethod x ∈ ow_T ∧ (∃ b0 m0 r0, Cond.code x b0 m0 r0 ∈ ow_T) ∧ Cond.selects C x y ∈ ow_T ∧ Cond.instanceMethod y ∈ ow_T ∧ Cond.initialized y.cls ∈ ow_T ∧ Cond.code y cy n ret ∈ ow_T ∧ ow_mx x na
section STW
variable {X : ow_X} {cs sl : Nat} {h : ow_H} {pc : Nat} {lv : List (Nat × Value)} {st : List Value} {own : String} {cc : ByteArray} {nL kR : Nat} {Z : Nat → Nat} {R0 : Room} {h0 : ow_H} {K : Nat → Option Value → ow_H → Prop} {mcR msR : Nat} {retR : Option FieldType} {nmR : String}
variable {y : MethodName} {cy : ByteArray} {n idx k mc ms na : Nat} {ret : Option FieldType} {Kc : Nat → Option Value → ow_H → Prop}
theorem ryb_src {b n : Nat} {t : Nat → Nat} (G : og_G X Z) (r : ryb Z b n t h) : og_src X h b n (fun j => nI (t j)) := by
  rcases r with ⟨w, h1, rfl, rfl, rfl⟩ | r
  · exact og_src_g (og_st (og_1 G h1))
  · obtain ⟨S, I, V, z⟩ := h
    exact og_src_f r.1 (fun _ _ => rfl) (Nat.le_refl _) (fun j hj => (r.2.2 j hj).2)
/-- a string's bytes -/
theorem or_rsv {a n : Nat} {t : Nat → Nat} (r : rs Z a n t h) (E : ow_E X own cc nL R0) (G : og_G X Z) (f : ow_fl own idx 11 0) (hw : Cond.fieldLink own idx "java/lang/String" "value" "[B" ∈ ow_T) (d : decode cc pc = .ok (.getfield idx, 3)) (kk : ∀ b, ryb Z b n t h → ow_W X cs sl h (pc + 3) lv (.ref b :: st)) : ow_W X cs sl h pc lv (.ref a :: st) := by
  rcases r with ⟨w, h1, rfl, rfl, rfl⟩ | r
  · exact or_gf E (og_sv (og_1 G h1)) hw d (kk _ (Or.inl ⟨w, h1, rfl, rfl, rfl⟩))
  · exact or_getC (h := h) E f d r.1 rfl (kk _ (Or.inr ⟨r.2.2.1, r.2.2.2.1, r.2.2.2.2⟩))
theorem or_rsc {a n : Nat} {t : Nat → Nat} (r : rs Z a n t h) (E : ow_E X own cc nL R0) (G : og_G X Z) (f : ow_fl own idx 11 1) (hw : Cond.fieldLink own idx "java/lang/String" "coder" "B" ∈ ow_T) (d : decode cc pc = .ok (.getfield idx, 3)) (kk : ow_W X cs sl h (pc + 3) lv (.int (nI 0) :: st)) : ow_W X cs sl h pc lv (.ref a :: st) := by
  rcases r with ⟨w, h1, rfl, rfl, rfl⟩ | r
  · exact or_gf E (og_sz (og_1 G h1)) hw d kk
  · exact or_getI (h := h) E f d r.1 rfl (by rw [r.2.1]; exact kk)
theorem or_rlen {b n : Nat} {t : Nat → Nat} (r : ryb Z b n t h) (E : ow_E X own cc nL R0) (G : og_G X Z) (d : decode cc pc = .ok (.arraylength, 1)) (kk : ow_W X cs sl h (pc + 1) lv (.int (nI n) :: st)) : ow_W X cs sl h pc lv (.ref b :: st) := by
  rcases r with ⟨w, h1, rfl, rfl, rfl⟩ | r
  · exact or_glen E (og_st (og_1 G h1)) d kk
  · obtain ⟨S, I, V, z⟩ := h
    exact or_alen E d r.1 kk
theorem or_rbl {b n j : Nat} {t : Nat → Nat} (r : ryb Z b n t h) (hj : j < n) (E : ow_E X own cc nL R0) (G : og_G X Z) (d : decode cc pc = .ok (.baload, 1)) (kk : ow_W X cs sl h (pc + 1) lv (.int (nI (t j)) :: st)) : ow_W X cs sl h pc lv (.int (nI j) :: .ref b :: st) := by
  have hn := ryb_n r
  rcases r with ⟨w, h1, rfl, rfl, rfl⟩ | r
  · exact or_gba (j := j) E (og_st (og_1 G h1)) hj (by omega) d kk
  · obtain ⟨S, I, V, z⟩ := h
    refine ot_bald (j := j) E d r.1 rfl rfl hj (by omega) ?_
    rw [show I b j = nI (t j) from (r.2.2 j hj).2]
    exact kk
theorem or_rV {a n1 : Nat} {t : Nat → Nat} (As : List Value) (r : rs Z a n1 t h) (hC : ow_Cx Z y cy n ret k mc ms (.ref a :: As) h Kc) (E : ow_E X own cc nL (ow_rm kR mcR msR)) (G : og_G X Z) (F : ox_F X h0 K mcR msR retR nmR) (L : ow_lv own idx y cy n ret na) (d : decode cc pc = .ok (.invokevirtual idx, 3)) (hy : RJ0 = y.cls)
    (hn : As.length = na) (hk : k + 1 ≤ kR) (hn2 : n ≤ 20) (hm : cs + mc ≤ mcR ∧ sl + ms ≤ msR) (hst : (st.map fun v => v.category).sum ≤ 8)
    (kk : ∀ (r : Option Value) (h1 : ow_H), Kc 0 r h1 → ow_W X (cs + mc) (sl + ms) h1 (pc + 3) lv (r.toList ++ st)) (kx : ∀ (c' : Nat) (h1 : ow_H), 0 < c' → Kc c' none h1 → K c' none h1) : ow_W X cs sl h pc lv (As.reverse ++ .ref a :: st) := by
  rcases r with ⟨w, h1, rfl, rfl, rfl⟩ | r
  · exact or_xVg As hC E G F L d (by rw [← hy]; exact og_so (og_1 G h1)) hn hk hn2 hm hst kk kx
  · exact or_xV As hC E G F L d r.1 rfl hy hn hk hn2 hm hst kk kx
theorem or_rV0 {a n1 : Nat} {t : Nat → Nat} (r : rs Z a n1 t h) (hC : ow_Cx Z y cy n ret k mc ms [.ref a] h Kc) (E : ow_E X own cc nL (ow_rm kR mcR msR)) (G : og_G X Z) (F : ox_F X h0 K mcR msR retR nmR) (L : ow_lv own idx y cy n ret 0) (d : decode cc pc = .ok (.invokevirtual idx, 3)) (hy : RJ0 = y.cls)
    (hk : k + 1 ≤ kR) (hn2 : n ≤ 20) (hm : cs + mc ≤ mcR ∧ sl + ms ≤ msR) (hst : (st.map fun v => v.category).sum ≤ 8)
    (kk : ∀ (r : Option Value) (h1 : ow_H), Kc 0 r h1 → ow_W X (cs + mc) (sl + ms) h1 (pc + 3) lv (r.toList ++ st)) (kx : ∀ (c' : Nat) (h1 : ow_H), 0 < c' → Kc c' none h1 → K c' none h1) : ow_W X cs sl h pc lv (.ref a :: st) := or_rV [] r hC E G F L d hy rfl hk hn2 hm hst kk kx
theorem or_rV1 {a n1 : Nat} {t : Nat → Nat} {x0 : Value} (r : rs Z a n1 t h) (hC : ow_Cx Z y cy n ret k mc ms [.ref a, x0] h Kc) (E : ow_E X own cc nL (ow_rm kR mcR msR)) (G : og_G X Z) (F : ox_F X h0 K mcR msR retR nmR) (L : ow_lv own idx y cy n ret 1) (d : decode cc pc = .ok (.invokevirtual idx, 3)) (hy : RJ0 = y.cls)
    (hk : k + 1 ≤ kR) (hn2 : n ≤ 20) (hm : cs + mc ≤ mcR ∧ sl + ms ≤ msR) (hst : (st.map fun v => v.category).sum ≤ 8)
    (kk : ∀ (r : Option Value) (h1 : ow_H), Kc 0 r h1 → ow_W X (cs + mc) (sl + ms) h1 (pc + 3) lv (r.toList ++ st)) (kx : ∀ (c' : Nat) (h1 : ow_H), 0 < c' → Kc c' none h1 → K c' none h1) : ow_W X cs sl h pc lv (x0 :: .ref a :: st) := or_rV [x0] r hC E G F L d hy rfl hk hn2 hm hst kk kx
theorem or_rV3 {a n1 : Nat} {t : Nat → Nat} {x0 x1 x2 : Value} (r : rs Z a n1 t h) (hC : ow_Cx Z y cy n ret k mc ms [.ref a, x0, x1, x2] h Kc) (E : ow_E X own cc nL (ow_rm kR mcR msR)) (G : og_G X Z) (F : ox_F X h0 K mcR msR retR nmR) (L : ow_lv own idx y cy n ret 3) (d : decode cc pc = .ok (.invokevirtual idx, 3)) (hy : RJ0 = y.cls)
    (hk : k + 1 ≤ kR) (hn2 : n ≤ 20) (hm : cs + mc ≤ mcR ∧ sl + ms ≤ msR) (hst : (st.map fun v => v.category).sum ≤ 8)
    (kk : ∀ (r : Option Value) (h1 : ow_H), Kc 0 r h1 → ow_W X (cs + mc) (sl + ms) h1 (pc + 3) lv (r.toList ++ st)) (kx : ∀ (c' : Nat) (h1 : ow_H), 0 < c' → Kc c' none h1 → K c' none h1) : ow_W X cs sl h pc lv (x2 :: x1 :: x0 :: .ref a :: st) := or_rV [x0, x1, x2] r hC E G F L d hy rfl hk hn2 hm hst kk kx
/-- an overriding method -/
theorem or_kO0 {b ci : Nat} {κ : Nat → Option (Option Value)} {r0 : vw_C} {x : MethodName} (hC : ow_Cx Z y cy n ret k mc ms [.ref b] h Kc) (E : ow_E X own cc nL (ow_rm kR mcR msR)) (G : og_G X Z) (F : ox_F X h0 K mcR msR retR nmR) (L : ow_lov own idx x r0.1 y cy n ret 0) (d : decode cc pc = .ok (.invokevirtual idx, 3)) (hS : h.1 b = some (.inl (ci, κ))) (hc : ow_cl[ci]? = some r0)
    (hk : k + 1 ≤ kR) (hn2 : n ≤ 20) (hm : cs + mc ≤ mcR ∧ sl + ms ≤ msR) (hst : (st.map fun v => v.category).sum ≤ 8)
    (kk : ∀ (r : Option Value) (h1 : ow_H), Kc 0 r h1 → ow_W X (cs + mc) (sl + ms) h1 (pc + 3) lv (r.toList ++ st)) (kx : ∀ (c' : Nat) (h1 : ow_H), 0 < c' → Kc c' none h1 → K c' none h1) : ow_W X cs sl h pc lv (.ref b :: st) := by
  obtain ⟨p, l, e, R, s, m, args, below, meth, c, Q, D, A⟩ := X
  obtain ⟨hx, hb, hown, hts, hK, hA, hml, rfl⟩ := E
  obtain ⟨w1, w2, w3, ⟨b0, m0, q0, w4⟩, w5, w6, w7, w8, w9⟩ := L
  intro H locs ls hR hD hSS hl
  have cw : va_CU (ow_rm kR mcR msR) s args own r0.1 x.cls idx x y cy n ret (Cond.code y cy n ret :: ow_T) (ow_rm k mc ms) mc ms 0 := by
    refine ⟨⟨rfl, rfl, hk, by show 8 + (n + 11) + 40 * k ≤ 40 * kR; omega, pay_in hts (ow_good_code w8), List.mem_cons_self⟩, hts _ w8, hts _ w7, ⟨w9.1, w9.2.1⟩, fun sig hs => ?_, hts _ w1, hts _ w2, va_Decl.of (hts _ w3) (hts _ w4), hts _ w5, hts _ w6⟩
    have h2 := w9.2.2
    rw [hs] at h2
    exact (Option.some.inj h2).symm
  exact ox_after F hR hD hA hSS hl hm (vx_runU (As := []) (rest := st) ⟨hx, hb, rfl, hown, hts⟩ (hC l D G.2) cw ⟨ox_Pc_blind Z D _ h, ow_recv hK hR hS hc, fun U hU hW => ⟨⟨rfl, by rw [hU]; exact hR.moved hW.alike, va_K.moved hW.alike hK⟩, ox_gl G.1 hR hD hA hSS hU hW⟩⟩ rfl rfl hl.1 rfl (lv_room hst) d hm) kk kx
end STW
theorem fs_100_9 : ow_fl RX100 9 11 0 := ⟨_, rfl, by decide, ow_T_in 750 (by decide +kernel) (by decide +kernel), ow_ok11⟩
theorem fs_100_15 : ow_fl RX100 15 11 1 := ⟨_, rfl, by decide, ow_T_in 751 (by decide +kernel) (by decide +kernel), ow_ok11⟩
set_option maxRecDepth 100000 in
set_option maxHeartbeats 400000 in
theorem cj0_coderR {Z : Nat → Nat} {S : Nat → Option ow_Sh} {I : ow_I} {V : Nat → Nat → Value} {z a n : Nat} {t : Nat → Nat} (hr : rs Z a n t (S, I, V, z)) : ow_Cx Z yJ0_coder_7d493 cJ0_coder_7d493 1 (some .byte) 0 0 0 [.ref a] (S, I, V, z) (ox_s S V z 0 (some (.int (nI 0))) I) := by
  refine ow_Cx.off rfl (Nat.le_of_ble_eq_true rfl) (fun X K E G F hk => ?_)
  have E : ow_E X RX100 cJ0_coder_7d493 1 (ow_rm 0 0 0) := E
  refine or_lv [(0, .ref a)] rfl ?_
  refine or_gs E (og_cz G) wt_372 dJ0_coder_7d493_0 ?_
  refine or_if_eqN (a := 1) 13 E dJ0_coder_7d493_3 rfl (by decide) (fun q => absurd q (by decide)) (fun _ => ?_)
  refine or_aload_n E rfl dJ0_coder_7d493_6 ?_
  refine or_rsc hr E G fs_100_15 (ow_T_in 751 (by decide +kernel) (by decide +kernel)) dJ0_coder_7d493_7 ?_
  refine or_goto 14 E dJ0_coder_7d493_10 rfl ?_
  exact or_xr E F (fun X' E' F' => or_nret E' F' dJ0_coder_7d493_14 (Nat.le_of_ble_eq_true rfl) (Nat.le_of_ble_eq_true rfl) (by decide) (hk.1 rfl))
set_option maxRecDepth 100000 in
set_option maxHeartbeats 400000 in
theorem cj0_isLatin1R {Z : Nat → Nat} {S : Nat → Option ow_Sh} {I : ow_I} {V : Nat → Nat → Value} {z a n : Nat} {t : Nat → Nat} (hr : rs Z a n t (S, I, V, z)) : ow_Cx Z yJ0_isLatin1_aae02 cJ0_isLatin1_aae02 1 (some .boolean) 0 0 0 [.ref a] (S, I, V, z) (ox_s S V z 0 (some (.int (bi true))) I) := by
  refine ow_Cx.off rfl (Nat.le_of_ble_eq_true rfl) (fun X K E G F hk => ?_)
  have E : ow_E X RX100 cJ0_isLatin1_aae02 1 (ow_rm 0 0 0) := E
  refine or_lv [(0, .ref a)] rfl ?_
  refine or_gs E (og_cz G) wt_372 dJ0_isLatin1_aae02_0 ?_
  refine or_if_eqN (a := 1) 17 E dJ0_isLatin1_aae02_3 rfl (by decide) (fun q => absurd q (by decide)) (fun _ => ?_)
  refine or_aload_n E rfl dJ0_isLatin1_aae02_6 ?_
  refine or_rsc hr E G fs_100_15 (ow_T_in 751 (by decide +kernel) (by decide +kernel)) dJ0_isLatin1_aae02_7 ?_
  refine or_if_neN (a := 0) 17 E dJ0_isLatin1_aae02_10 rfl (by decide) (fun q => absurd rfl q) (fun _ => ?_)
  refine or_iconst (v := nI 1) E rfl dJ0_isLatin1_aae02_13 ?_
  refine or_goto 18 E dJ0_isLatin1_aae02_14 rfl ?_
  exact or_xr E F (fun X' E' F' => or_zret E' F' dJ0_isLatin1_aae02_18 (Nat.le_of_ble_eq_true rfl) (Nat.le_of_ble_eq_true rfl) (bi_nar true) (hk.1 rfl))
set_option maxRecDepth 100000 in
set_option maxHeartbeats 400000 in
theorem cj0_lengthR {Z : Nat → Nat} {S : Nat → Option ow_Sh} {I : ow_I} {V : Nat → Nat → Value} {z a n : Nat} {t : Nat → Nat} (hr : rs Z a n t (S, I, V, z)) : ow_Cx Z yJ0_length_8abf5 cJ0_length_8abf5 1 (some .int) 1 0 0 [.ref a] (S, I, V, z) (ox_s S V z 0 (some (.int (nI n))) I) := by
  refine ow_Cx.off rfl (Nat.le_of_ble_eq_true rfl) (fun X K E G F hk => ?_)
  have E : ow_E X RX100 cJ0_length_8abf5 1 (ow_rm 1 0 0) := E
  refine or_lv [(0, .ref a)] rfl ?_
  refine or_aload_n E rfl dJ0_length_8abf5_0 ?_
  refine or_rsv hr E G fs_100_9 (ow_T_in 750 (by decide +kernel) (by decide +kernel)) dJ0_length_8abf5_1 (fun b hb => ?_)
  refine or_rlen hb E G dJ0_length_8abf5_4 ?_
  refine or_aload_n E rfl dJ0_length_8abf5_5 ?_
  refine or_rV0 hr (cj0_coderR (Z := Z) hr) E G F lk_100_335 dJ0_length_8abf5_6 rfl (by decide) (by decide) ⟨by omega, by omega⟩ (Nat.le_of_ble_eq_true rfl) (fun r h1 q => ?_) (fun c' h1 hc' q => absurd q.1 (Nat.pos_iff_ne_zero.mp hc'))
  obtain ⟨rfl, rfl⟩ := q.2.1 rfl
  refine or_ishr E dJ0_length_8abf5_9 ?_
  refine or_top (y := nI n) (sb_shr0 _) ?_
  exact or_xr E F (fun X' E' F' => or_iret E' F' dJ0_length_8abf5_10 (Nat.le_of_ble_eq_true rfl) (Nat.le_of_ble_eq_true rfl) (hk.1 rfl))
set_option maxRecDepth 100000 in
set_option maxHeartbeats 400000 in
theorem cj1_charAtR {Z : Nat → Nat} {S : Nat → Option ow_Sh} {I : ow_I} {V : Nat → Nat → Value} {z b n i : Nat} {t : Nat → Nat} (hb : ryb Z b n t (S, I, V, z)) (hi : i < n) : ow_Cx Z yJ1_charAt_3b067 cJ1_charAt_3b067 2 (some .char) 3 0 0 [.ref b, .int (nI i)] (S, I, V, z) (ox_s S V z 0 (some (.int (nI (t i)))) I) := by
  refine ow_Cx.off rfl (Nat.le_of_ble_eq_true rfl) (fun X K E G F hk => ?_)
  have E : ow_E X RX101 cJ1_charAt_3b067 2 (ow_rm 3 0 0) := E
  refine or_lv [(0, .ref b), (1, .int (nI i))] rfl ?_
  have hn := ryb_n hb
  have ht := ryb_t hb hi
  refine or_iload_n E rfl dJ1_charAt_3b067_0 ?_
  refine or_aload_n E rfl dJ1_charAt_3b067_1 ?_
  refine or_rlen hb E G dJ1_charAt_3b067_2 ?_
  refine or_fT2v (cj0_checkIndex_df160 (Z := Z) hi (by omega)) E G F lk_101_9 dJ1_charAt_3b067_3 (by decide) (by decide) ⟨by omega, by omega⟩ (Nat.le_of_ble_eq_true rfl) (fun _ => ?_) (fun h => absurd h (Nat.lt_irrefl 0))
  refine or_aload_n E rfl dJ1_charAt_3b067_6 ?_
  refine or_iload_n E rfl dJ1_charAt_3b067_7 ?_
  refine or_rbl hb hi E G dJ1_charAt_3b067_8 ?_
  refine or_sipush (v := nI 255) E rfl dJ1_charAt_3b067_9 ?_
  refine or_iand E dJ1_charAt_3b067_12 ?_
  refine or_top (y := nI (t i)) (by_c ht) ?_
  refine or_i2c (v := nI (t i)) E (by_cc ht) dJ1_charAt_3b067_13 ?_
  exact or_xr E F (fun X' E' F' => or_nret E' F' dJ1_charAt_3b067_14 (Nat.le_of_ble_eq_true rfl) (Nat.le_of_ble_eq_true rfl) (nar_c (by omega)) (hk.1 rfl))
set_option maxRecDepth 100000 in
set_option maxHeartbeats 400000 in
theorem cj0_charAtR {Z : Nat → Nat} {S : Nat → Option ow_Sh} {I : ow_I} {V : Nat → Nat → Value} {z a n i : Nat} {t : Nat → Nat} (hr : rs Z a n t (S, I, V, z)) (hi : i < n) : ow_Cx Z yJ0_charAt_5068e cJ0_charAt_5068e 2 (some .char) 4 0 0 [.ref a, .int (nI i)] (S, I, V, z) (ox_s S V z 0 (some (.int (nI (t i)))) I) := by
  refine ow_Cx.off rfl (Nat.le_of_ble_eq_true rfl) (fun X K E G F hk => ?_)
  have E : ow_E X RX100 cJ0_charAt_5068e 2 (ow_rm 4 0 0) := E
  refine or_lv [(0, .ref a), (1, .int (nI i))] rfl ?_
  have ht := rs_t hr hi
  refine or_aload_n E rfl dJ0_charAt_5068e_0 ?_
  refine or_rV0 hr (cj0_isLatin1R (Z := Z) hr) E G F lk_100_492 dJ0_charAt_5068e_1 rfl (by decide) (by decide) ⟨by omega, by omega⟩ (Nat.le_of_ble_eq_true rfl) (fun r h1 q => ?_) (fun c' h1 hc' q => absurd q.1 (Nat.pos_iff_ne_zero.mp hc'))
  obtain ⟨rfl, rfl⟩ := q.2.1 rfl
  refine or_if_eqZ (b := true) 16 E dJ0_charAt_5068e_4 rfl (fun q => absurd q (by decide)) (fun _ => ?_)
  refine or_aload_n E rfl dJ0_charAt_5068e_7 ?_
  refine or_rsv hr E G fs_100_9 (ow_T_in 750 (by decide +kernel) (by decide +kernel)) dJ0_charAt_5068e_8 (fun b hb => ?_)
  refine or_iload_n E rfl dJ0_charAt_5068e_11 ?_
  refine or_fT2r (cj1_charAtR (Z := Z) hb hi) E G F lk_100_495 dJ0_charAt_5068e_12 (by decide) (by decide) ⟨by omega, by omega⟩ (Nat.le_of_ble_eq_true rfl) (fun _ => ?_) (fun h => absurd h (Nat.lt_irrefl 0))
  exact or_xr E F (fun X' E' F' => or_nret E' F' dJ0_charAt_5068e_15 (Nat.le_of_ble_eq_true rfl) (Nat.le_of_ble_eq_true rfl) (nar_c (by omega)) (hk.1 rfl))
set_option maxRecDepth 100000 in
set_option maxHeartbeats 400000 in
theorem cj0_getBytesR {Z : Nat → Nat} {S : Nat → Option ow_Sh} {I : ow_I} {V : Nat → Nat → Value} {z a n b dp m : Nat} {t : Nat → Nat} (hr : rs Z a n t (S, I, V, z)) (hB : S b = some (.inr (.byte, m, ow_n))) (hd : dp + n ≤ m) (hm : m ≤ 602) : ow_Cx Z yJ0_getBytes_840e7 cJ0_getBytes_840e7 4 none 1 0 0 [.ref a, .ref b, .int (nI dp), .int (nI 0)] (S, I, V, z) (ox_s S V z 0 none (ow_wr I b dp n (fun j => nI (t j)))) := by
  refine ow_Cx.off rfl (Nat.le_of_ble_eq_true rfl) (fun X K E G F hk => ?_)
  have E : ow_E X RX100 cJ0_getBytes_840e7 4 (ow_rm 1 0 0) := E
  refine or_lv [(0, .ref a), (1, .ref b), (2, .int (nI dp)), (3, .int (nI 0))] rfl ?_
  refine or_aload_n E rfl dJ0_getBytes_840e7_0 ?_
  refine or_rV0 hr (cj0_coderR (Z := Z) hr) E G F lk_100_335 dJ0_getBytes_840e7_1 rfl (by decide) (by decide) ⟨by omega, by omega⟩ (Nat.le_of_ble_eq_true rfl) (fun r h1 q => ?_) (fun c' h1 hc' q => absurd q.1 (Nat.pos_iff_ne_zero.mp hc'))
  obtain ⟨rfl, rfl⟩ := q.2.1 rfl
  refine or_iload_n E rfl dJ0_getBytes_840e7_4 ?_
  refine or_icmp_neN 28 E dJ0_getBytes_840e7_5 rfl (by decide) (by decide) (fun q => absurd rfl q) (fun _ => ?_)
  refine or_aload_n E rfl dJ0_getBytes_840e7_8 ?_
  refine or_rsv hr E G fs_100_9 (ow_T_in 750 (by decide +kernel) (by decide +kernel)) dJ0_getBytes_840e7_9 (fun b1 hb1 => ?_)
  refine or_iconst (v := nI 0) E rfl dJ0_getBytes_840e7_12 ?_
  refine or_aload_n E rfl dJ0_getBytes_840e7_13 ?_
  refine or_iload_n E rfl dJ0_getBytes_840e7_14 ?_
  refine or_iload_n E rfl dJ0_getBytes_840e7_15 ?_
  refine or_ishl E dJ0_getBytes_840e7_16 ?_
  refine or_top (y := nI dp) (sb_shl0 _) ?_
  refine or_aload_n E rfl dJ0_getBytes_840e7_17 ?_
  refine or_rsv hr E G fs_100_9 (ow_T_in 750 (by decide +kernel) (by decide +kernel)) dJ0_getBytes_840e7_18 (fun b2 hb2 => ?_)
  refine or_rlen hb2 E G dJ0_getBytes_840e7_21 ?_
  refine or_wcopy E lc_100_212 dJ0_getBytes_840e7_22 (ryb_src G hb1) hB (fun _ _ => rfl) hd (by omega) (fun j hj => by_f (ryb_t hb1 hj)) ⟨(Nat.le_of_ble_eq_true rfl), (Nat.le_of_ble_eq_true rfl)⟩ ?_
  refine or_goto 43 E dJ0_getBytes_840e7_25 rfl ?_
  exact or_xr E F (fun X' E' F' => or_vret E' F' dJ0_getBytes_840e7_43 (Nat.le_of_ble_eq_true rfl) (Nat.le_of_ble_eq_true rfl) (hk.1 rfl))
theorem ld_105_397 : ow_ld RX105 397 yJ5_inflateIfNeededFor_a7421 cJ5_inflateIfNeededFor_a7421 2 none 1 := ⟨ow_T_in 647 (by decide +kernel) (by decide +kernel), ow_T_in 1305 (by decide +kernel) (by decide +kernel), ow_T_in 649 (by decide +kernel) (by decide +kernel), ow_T_in 12 (by decide +kernel) (by decide +kernel), ow_T_in 650 (by decide +kernel) (by decide +kernel), ⟨by decide, by decide, by decide +kernel⟩⟩
theorem ld_105_208 : ow_ld RX105 208 yJ5_putStringAt_47b60 cJ5_putStringAt_47b60 3 none 2 := ⟨ow_T_in 643 (by decide +kernel) (by decide +kernel), ow_T_in 1304 (by decide +kernel) (by decide +kernel), ow_T_in 645 (by decide +kernel) (by decide +kernel), ow_T_in 12 (by decide +kernel) (by decide +kernel), ow_T_in 646 (by decide +kernel) (by decide +kernel), ⟨by decide, by decide, by decide +kernel⟩⟩
theorem sel_if : ow_sel RJ4 yJ5_inflateIfNeededFor_a7421 := fun s args hts => hts _ (ow_T_2 3 (by decide +kernel))
theorem sel_ps : ow_sel RJ4 yJ5_putStringAt_47b60 := fun s args hts => hts _ (ow_T_2 2 (by decide +kernel))
set_option maxRecDepth 100000 in
set_option maxHeartbeats 400000 in
theorem cj5_inflateIf {Z : Nat → Nat} {S : Nat → Option ow_Sh} {I : ow_I} {V : Nat → Nat → Value} {z o a n : Nat} {t : Nat → Nat} (hS : sb_S S o) (hc : I o 1 = 0) (hr : rs Z a n t (S, I, V, z)) : ow_Cx Z yJ5_inflateIfNeededFor_a7421 cJ5_inflateIfNeededFor_a7421 2 none 1 0 0 [.ref o, .ref a] (S, I, V, z) (ox_s S V z 0 none I) := by
  refine ow_Cx.off rfl (Nat.le_of_ble_eq_true rfl) (fun X K E G F hk => ?_)
  have E : ow_E X RX105 cJ5_inflateIfNeededFor_a7421 2 (ow_rm 1 0 0) := E
  refine or_lv [(0, .ref o), (1, .ref a)] rfl ?_
  refine or_gs E (og_cz G) wt_336 dJ5_inflateIfNeededFor_a7421_0 ?_
  refine or_if_eqN (a := 1) 21 E dJ5_inflateIfNeededFor_a7421_3 rfl (by decide) (fun q => absurd q (by decide)) (fun _ => ?_)
  refine or_aload_n E rfl dJ5_inflateIfNeededFor_a7421_6 ?_
  refine ot_getI E fl_105_22 dJ5_inflateIfNeededFor_a7421_7 hS rfl ?_
  rw [hc]
  refine or_aload_n E rfl dJ5_inflateIfNeededFor_a7421_10 ?_
  refine or_rV0 hr (cj0_coderR (Z := Z) hr) E G F lk_105_40 dJ5_inflateIfNeededFor_a7421_11 rfl (by decide) (by decide) ⟨by omega, by omega⟩ (Nat.le_of_ble_eq_true rfl) (fun r h1 q => ?_) (fun c' h1 hc' q => absurd q.1 (Nat.pos_iff_ne_zero.mp hc'))
  obtain ⟨rfl, rfl⟩ := q.2.1 rfl
  refine or_icmp_eqN (a := 0) (b := 0) 21 E dJ5_inflateIfNeededFor_a7421_14 rfl (by decide) (by decide) (fun _ => ?_) (fun q => absurd rfl q)
  exact or_xr E F (fun X' E' F' => or_vret E' F' dJ5_inflateIfNeededFor_a7421_21 (Nat.le_of_ble_eq_true rfl) (Nat.le_of_ble_eq_true rfl) (hk.1 rfl))
set_option maxRecDepth 100000 in
set_option maxHeartbeats 400000 in
theorem cj5_putString {Z : Nat → Nat} {S : Nat → Option ow_Sh} {I : ow_I} {V : Nat → Nat → Value} {z o b m dp a n : Nat} {t : Nat → Nat} (hS : sb_S S o) (hb : V o 0 = .ref b) (hB : S b = some (.inr (.byte, m, ow_n))) (hd : dp + n ≤ m) (hm : m ≤ 602) (hc : I o 1 = 0) (hr : rs Z a n t (S, I, V, z)) : ow_Cx Z yJ5_putStringAt_47b60 cJ5_putStringAt_47b60 3 none 2 0 0 [.ref o, .int (nI dp), .ref a] (S, I, V, z) (ox_s S V z 0 none (ow_wr I b dp n (fun j => nI (t j)))) := by
  refine ow_Cx.off rfl (Nat.le_of_ble_eq_true rfl) (fun X K E G F hk => ?_)
  have E : ow_E X RX105 cJ5_putStringAt_47b60 3 (ow_rm 2 0 0) := E
  refine or_lv [(0, .ref o), (1, .int (nI dp)), (2, .ref a)] rfl ?_
  refine or_aload_n E rfl dJ5_putStringAt_47b60_0 ?_
  refine or_aload_n E rfl dJ5_putStringAt_47b60_1 ?_
  refine or_kD1 (cj5_inflateIf (Z := Z) hS hc hr) E G F ld_105_397 dJ5_putStringAt_47b60_2 hS rfl sel_if (by decide) (by decide) ⟨by omega, by omega⟩ (Nat.le_of_ble_eq_true rfl) (fun r h1 q => ?_) (fun c' h1 hc' q => absurd q.1 (Nat.pos_iff_ne_zero.mp hc'))
  obtain ⟨rfl, rfl⟩ := q.2.1 rfl
  refine or_aload_n E rfl dJ5_putStringAt_47b60_5 ?_
  refine or_aload_n E rfl dJ5_putStringAt_47b60_6 ?_
  refine ot_getV E fl_105_15 dJ5_putStringAt_47b60_7 hS rfl ?_
  rw [hb]
  refine or_iload_n E rfl dJ5_putStringAt_47b60_10 ?_
  refine or_aload_n E rfl dJ5_putStringAt_47b60_11 ?_
  refine ot_getI E fl_105_22 dJ5_putStringAt_47b60_12 hS rfl ?_
  rw [hc]
  refine or_rV3 hr (cj0_getBytesR (Z := Z) hr hB hd hm) E G F lk_105_399 dJ5_putStringAt_47b60_15 rfl (by decide) (by decide) ⟨by omega, by omega⟩ (Nat.le_of_ble_eq_true rfl) (fun r h1 q => ?_) (fun c' h1 hc' q => absurd q.1 (Nat.pos_iff_ne_zero.mp hc'))
  obtain ⟨rfl, rfl⟩ := q.2.1 rfl
  exact or_xr E F (fun X' E' F' => or_vret E' F' dJ5_putStringAt_47b60_18 (Nat.le_of_ble_eq_true rfl) (Nat.le_of_ble_eq_true rfl) (hk.1 rfl))
/-- a string that a builder reads: its bytes aren't the builder's -/
def rsb (Z : Nat → Nat) (b a n : Nat) (t : Nat → Nat) (h : ow_H) : Prop := (∃ w, w < 10 ∧ a = Z w ∧ n = gl_len w ∧ t = gl_ch w) ∨ (tf a n t h ∧ a + 1 ≠ b)
theorem rsb_r {Z : Nat → Nat} {b a n : Nat} {t : Nat → Nat} {h : ow_H} (r : rsb Z b a n t h) : rs Z a n t h := by
  rcases r with r | r
  · exact Or.inl r
  · exact Or.inr r.1
theorem tf_K {o b b1 a n n1 : Nat} {t t1 : Nat → Nat} {h h1 : ow_H} (hlt : ∀ (a : Nat) (sh : ow_Sh), h.1 a = some sh → a < h.2.2.2) (hX : sb_X o b n1 t1 h) (hT : tf a n t h) (hab : a + 1 ≠ b) (k : sb_K o b b1 h h1) : tf a n t h1 ∧ a + 1 ≠ b1 := by
  obtain ⟨t1, t2, t3, t4, t5⟩ := hT
  obtain ⟨k1, k2, k3, k4⟩ := k
  obtain ⟨x1, -, -, -, m, x2, -⟩ := hX
  have a1 := hlt _ _ t1
  have a2 := hlt _ _ t3
  have e1 : a ≠ o := fun e => by rw [e] at t1; unfold sb_S at x1; rw [x1] at t1; cases t1
  have e2 : a + 1 ≠ o := fun e => by rw [e] at t3; unfold sb_S at x1; rw [x1] at t3; cases t3
  have e3 : a ≠ b := fun e => by rw [e] at t1; rw [x2] at t1; cases t1
  refine ⟨⟨(k3 a a1).trans t1, ?_, (k3 _ a2).trans t3, t4, fun i hi => ⟨(t5 i hi).1, ?_⟩⟩, by omega⟩
  · rw [(k4 a a1 e1 e3).1]; exact t2
  · rw [(k4 _ a2 e2 hab).1]; exact (t5 i hi).2
theorem rsb_K {Z : Nat → Nat} {o b b1 a n n1 : Nat} {t t1 : Nat → Nat} {h h1 : ow_H} (hlt : ∀ (a : Nat) (sh : ow_Sh), h.1 a = some sh → a < h.2.2.2) (hX : sb_X o b n1 t1 h) (r : rsb Z b a n t h) (k : sb_K o b b1 h h1) : rsb Z b1 a n t h1 := by
  rcases r with r | r
  · exact Or.inl r
  · exact Or.inr (tf_K hlt hX r.1 r.2 k)
set_option maxRecDepth 100000 in
set_option maxHeartbeats 400000 in
theorem cj5_appendS {Z : Nat → Nat} {S : Nat → Option ow_Sh} {I : ow_I} {V : Nat → Nat → Value} {z o b n a l : Nat} {t u : Nat → Nat} (hX : sb_X o b n t (S, I, V, z)) (hs : rsb Z b a l u (S, I, V, z)) (hq : n + l ≤ 300) : ow_Cx Z yJ5_append_cf1ce cJ5_append_cf1ce 3 (some (.object "java/lang/AbstractStringBuilder")) 4 1 602 [.ref o, .ref a] (S, I, V, z) (sb_Q o b (n + l) (sb_cat t n u) (S, I, V, z) (some (.ref o))) := by
  obtain ⟨K, hK⟩ : ∃ K : Nat → Option Value → ow_H → Prop, K = (sb_Q o b (n + l) (sb_cat t n u) (S, I, V, z) (some (.ref o))) := ⟨_, rfl⟩
  rw [← hK]
  refine ow_Cx.of rfl (Nat.le_of_ble_eq_true rfl) (fun X E G F => ?_)
  have E : ow_E X RX105 cJ5_append_cf1ce 3 (ow_rm 4 1 602) := E
  refine or_lv [(0, .ref o), (1, .ref a)] rfl ?_
  have hX0 := hX
  obtain ⟨hS, hb, hc, hn, m, hB, hnm, hm, hL, hf⟩ := hX
  dsimp only at hS hb hc hn hB hL hf
  refine or_ltz (fun hlt => ?_)
  have hr := rsb_r hs
  refine or_aload_n E rfl dJ5_append_cf1ce_0 ?_
  refine or_ifnonnull 9 E dJ5_append_cf1ce_1 rfl ?_
  refine or_aload_n E rfl dJ5_append_cf1ce_9 ?_
  refine or_rV0 hr (cj0_lengthR (Z := Z) hr) E G F lk_105_32 dJ5_append_cf1ce_10 rfl (by decide) (by decide) ⟨by omega, by omega⟩ (Nat.le_of_ble_eq_true rfl) (fun r h1 q => ?_) (fun c' h1 hc' q => absurd q.1 (Nat.pos_iff_ne_zero.mp hc'))
  obtain ⟨rfl, rfl⟩ := q.2.1 rfl
  refine or_istore_n E dJ5_append_cf1ce_13 (by decide) ?_
  refine or_aload_n E rfl dJ5_append_cf1ce_14 ?_
  refine or_aload_n E rfl dJ5_append_cf1ce_15 ?_
  refine ot_getI E fl_105_79 dJ5_append_cf1ce_16 hS rfl ?_
  rw [hn]
  refine or_iload_n E rfl dJ5_append_cf1ce_19 ?_
  refine or_iaddN E dJ5_append_cf1ce_20 ?_
  refine or_kD1 (cj5_ensure (Z := Z) hX0 hq) E G F ld_105_100 dJ5_append_cf1ce_21 hS rfl sel_en (by decide) (by decide) ⟨by omega, by omega⟩ (Nat.le_of_ble_eq_true rfl) (fun r h1 q => ?_) (fun c' h1 hc' q => absurd q.1 (Nat.pos_iff_ne_zero.mp hc'))
  obtain ⟨-, rfl, b1, m1, hX1, hK1, hB1, hq1⟩ := q
  have hs1 := rsb_K hlt hX0 hs hK1
  obtain ⟨S1, I1, V1, z1⟩ := h1
  have hob := sb_ne hX1
  have hr1 := rsb_r hs1
  obtain ⟨gS, gb, gc, gn, m2, gB, gnm, gm, gL, gf⟩ := hX1
  dsimp only at gS gb gc gn gB gL gf hB1
  cases gB.symm.trans hB1
  refine or_aload_n E rfl dJ5_append_cf1ce_24 ?_
  refine or_aload_n E rfl dJ5_append_cf1ce_25 ?_
  refine ot_getI E fl_105_79 dJ5_append_cf1ce_26 gS rfl ?_
  rw [gn]
  refine or_aload_n E rfl dJ5_append_cf1ce_29 ?_
  refine or_kD2 (cj5_putString (Z := Z) gS gb gB hq1 gm gc hr1) E G F ld_105_208 dJ5_append_cf1ce_30 gS rfl sel_ps (by decide) (by decide) ⟨by omega, by omega⟩ (Nat.le_of_ble_eq_true rfl) (fun r h1 q2 => ?_) (fun c' h1 hc' q => absurd q.1 (Nat.pos_iff_ne_zero.mp hc'))
  obtain ⟨rfl, rfl⟩ := q2.2.1 rfl
  refine or_aload_n E rfl dJ5_append_cf1ce_33 ?_
  refine or_dup E rfl dJ5_append_cf1ce_34 ?_
  refine ot_getI E fl_105_79 dJ5_append_cf1ce_35 gS rfl ?_
  rw [ow_wr_a hob, gn]
  refine or_iload_n E rfl dJ5_append_cf1ce_38 ?_
  refine or_iaddN E dJ5_append_cf1ce_39 ?_
  refine ot_putI E fl_105_79 fw_12_3 dJ5_append_cf1ce_40 gS rfl ?_
  refine or_aload_n E rfl dJ5_append_cf1ce_43 ?_
  refine or_xr E F (fun X' E' F' => or_aret E' F' (Or.inl ⟨_, rfl⟩) (Or.inr ⟨_, rfl⟩) dJ5_append_cf1ce_44 (Nat.le_of_ble_eq_true rfl) (Nat.le_of_ble_eq_true rfl) ?_)
  rw [hK]
  have hbo := Ne.symm hob
  refine ⟨rfl, rfl, b1, ⟨gS, gb, ?_, ow_u_s _ _ _ _, _, gB, by omega, gm, sb_latPut gL (fun j hj => ?_) (fun i hi => ?_), fun j => ?_⟩, hK1.wr (fun c h0 hb9 => ?_)⟩
  · show ow_u (ow_wr I1 b1 n l (fun j => nI (u j))) o 3 _ o 1 = 0
    rw [ow_u_k _ _ _ _ (by decide), ow_wr_a hob]
    exact gc
  · show ow_u (ow_wr I1 b1 n l (fun j => nI (u j))) o 3 _ b1 j = I1 b1 j
    rw [ow_u_a _ _ _ _ hbo, ow_wr_o (Or.inl hj)]
  · have ht := rs_t hr1 hi
    refine ⟨by omega, ?_⟩
    show ow_u (ow_wr I1 b1 n l (fun j => nI (u j))) o 3 _ b1 (n + i) = _
    rw [ow_u_a _ _ _ _ hbo, ow_wr_in hi, by_b ht]
  · show fits .byte (.int (ow_u (ow_wr I1 b1 n l (fun j => nI (u j))) o 3 _ b1 j)) = true
    rw [ow_u_a _ _ _ _ hbo]
    by_cases e : j < n ∨ n + l ≤ j
    · rw [ow_wr_o e]
      exact gf j
    · have h9 : ow_wr I1 b1 n l (fun j => nI (u j)) b1 (n + (j - n)) = nI (u (j - n)) := ow_wr_in (by omega)
      rw [show n + (j - n) = j by omega] at h9
      rw [h9]
      exact by_f (rs_t hr1 (by omega))
  · funext j
    rw [ow_u_a _ _ _ _ h0, ow_wr_a hb9]
theorem lw_104_29 : ow_lw RX104 29 yJ5_append_cf1ce cJ5_append_cf1ce 3 (some (.object "java/lang/AbstractStringBuilder")) 1 := ⟨ow_T_in 584 (by decide +kernel) (by decide +kernel), ow_T_in 1300 (by decide +kernel) (by decide +kernel), ow_T_in 357 (by decide +kernel) (by decide +kernel), ow_T_in 585 (by decide +kernel) (by decide +kernel), ow_T_in 12 (by decide +kernel) (by decide +kernel), ow_T_in 586 (by decide +kernel) (by decide +kernel), by decide, by decide +kernel⟩
set_option maxRecDepth 100000 in
set_option maxHeartbeats 400000 in
theorem cj4_appendS {Z : Nat → Nat} {S : Nat → Option ow_Sh} {I : ow_I} {V : Nat → Nat → Value} {z o b n a l : Nat} {t u : Nat → Nat} (hX : sb_X o b n t (S, I, V, z)) (hs : rsb Z b a l u (S, I, V, z)) (hq : n + l ≤ 300) : ow_Cx Z yJ4_append_15ec4 cJ4_append_15ec4 2 (some (.object "java/lang/StringBuilder")) 5 1 602 [.ref o, .ref a] (S, I, V, z) (sb_Q o b (n + l) (sb_cat t n u) (S, I, V, z) (some (.ref o))) := by
  obtain ⟨K, hK⟩ : ∃ K : Nat → Option Value → ow_H → Prop, K = (sb_Q o b (n + l) (sb_cat t n u) (S, I, V, z) (some (.ref o))) := ⟨_, rfl⟩
  rw [← hK]
  refine ow_Cx.of rfl (Nat.le_of_ble_eq_true rfl) (fun X E G F => ?_)
  have E : ow_E X RX104 cJ4_append_15ec4 2 (ow_rm 5 1 602) := E
  refine or_lv [(0, .ref o), (1, .ref a)] rfl ?_
  have hX0 := hX
  have hS := hX.1
  refine or_aload_n E rfl dJ4_append_15ec4_0 ?_
  refine or_aload_n E rfl dJ4_append_15ec4_1 ?_
  refine or_kW1 (cj5_appendS (Z := Z) hX0 hs hq) E G F lw_104_29 dJ4_append_15ec4_2 hS rfl (by decide) (by decide) ⟨by omega, by omega⟩ (Nat.le_of_ble_eq_true rfl) (fun r h1 q => ?_) (fun c' h1 hc' q => absurd q.1 (Nat.pos_iff_ne_zero.mp hc'))
  have hq9 := q
  obtain ⟨-, rfl, -⟩ := q
  refine or_pop E rfl dJ4_append_15ec4_5 ?_
  refine or_aload_n E rfl dJ4_append_15ec4_6 ?_
  exact or_xr E F (fun X' E' F' => or_aret E' F' (Or.inl ⟨_, rfl⟩) (Or.inr ⟨_, rfl⟩) dJ4_append_15ec4_7 (Nat.le_of_ble_eq_true rfl) (Nat.le_of_ble_eq_true rfl) (by rw [hK]; exact hq9))
set_option maxRecDepth 100000 in
set_option maxHeartbeats 400000 in
theorem cj7_checkLength {Z : Nat → Nat} {S : Nat → Option ow_Sh} {I : ow_I} {V : Nat → Nat → Value} {z n : Nat} (hn : n < 2 ^ 31) : ow_Cx Z yJ7_checkLength_df160 cJ7_checkLength_df160 2 none 0 0 0 [.int (nI 0), .int (nI n)] (S, I, V, z) (ox_s S V z 0 none I) := by
  refine ow_Cx.off rfl (Nat.le_of_ble_eq_true rfl) (fun X K E G F hk => ?_)
  have E : ow_E X RX107 cJ7_checkLength_df160 2 (ow_rm 0 0 0) := E
  refine or_lv [(0, .int (nI 0)), (1, .int (nI n))] rfl ?_
  refine or_iload_n E rfl dJ7_checkLength_df160_0 ?_
  refine or_iload_n E rfl dJ7_checkLength_df160_1 ?_
  refine or_icmp_geN 37 E dJ7_checkLength_df160_2 rfl hn (by decide) (fun _ => ?_) (fun q => absurd (Nat.zero_le _) q)
  exact or_xr E F (fun X' E' F' => or_vret E' F' dJ7_checkLength_df160_37 (Nat.le_of_ble_eq_true rfl) (Nat.le_of_ble_eq_true rfl) (hk.1 rfl))
set_option maxRecDepth 100000 in
set_option maxHeartbeats 400000 in
theorem cj7_copyOfRangeByte {Z : Nat → Nat} {S : Nat → Option ow_Sh} {I : ow_I} {V : Nat → Nat → Value} {z b m n : Nat} (hB : S b = some (.inr (.byte, m, ow_n))) (hf : sb_Fit (I b)) (h1 : n ≤ m) (h2 : n ≤ 300) (h3 : m ≤ 602) : ow_Cx Z yJ7_copyOfRangeByte_39247 cJ7_copyOfRangeByte_39247 5 (some (.array .byte)) 2 1 300 [.ref b, .int (nI 0), .int (nI n)] (S, I, V, z) (ox_s (ow_nS S z (.inr (.byte, n, ow_n))) V (z + 1) 0 (some (.ref z)) (ow_cp (ow_nI I z) b z n)) := by
  refine ow_Cx.off rfl (Nat.le_of_ble_eq_true rfl) (fun X K E G F hk => ?_)
  have E : ow_E X RX107 cJ7_copyOfRangeByte_39247 5 (ow_rm 2 1 300) := E
  refine or_lv [(0, .ref b), (1, .int (nI 0)), (2, .int (nI n))] rfl ?_
  refine or_ltz (fun hlt => ?_)
  have hbz : b ≠ z := by
    have := hlt b _ hB
    omega
  have hB1 : ow_nS S z (.inr (.byte, n, ow_n)) b = some (.inr (.byte, m, ow_n)) := (ow_nS_o S _ hbz).trans hB
  have hZ1 := ow_nS_s S z (.inr (.byte, n, ow_n))
  refine or_iload_n E rfl dJ7_copyOfRangeByte_39247_0 ?_
  refine or_iload_n E rfl dJ7_copyOfRangeByte_39247_1 ?_
  refine or_fT2v (cj7_checkLength (Z := Z) (n := n) (by omega)) E G F lk_107_343 dJ7_copyOfRangeByte_39247_2 (by decide) (by decide) ⟨by omega, by omega⟩ (Nat.le_of_ble_eq_true rfl) (fun _ => ?_) (fun h => absurd h (Nat.lt_irrefl 0))
  refine or_iload_n E rfl dJ7_copyOfRangeByte_39247_5 ?_
  refine or_iload_n E rfl dJ7_copyOfRangeByte_39247_6 ?_
  refine or_isubN E dJ7_copyOfRangeByte_39247_7 (Nat.zero_le _) ?_
  refine or_top (y := nI n) (by rw [Nat.sub_zero]) ?_
  refine or_istore_n E dJ7_copyOfRangeByte_39247_8 (by decide) ?_
  refine or_iload_n E rfl dJ7_copyOfRangeByte_39247_9 ?_
  refine or_newa (atype := .byte) (κ := ow_n) E (ow_T_in 358 (by decide +kernel) (by decide +kernel)) rfl (fun _ => rfl) dJ7_copyOfRangeByte_39247_10 (by omega) (by show n * 1 ≤ 536870912; omega) (Nat.le_of_ble_eq_true rfl) (by omega) ?_
  refine or_astore E dJ7_copyOfRangeByte_39247_12 (by decide) ?_
  refine or_aload_n E rfl dJ7_copyOfRangeByte_39247_14 ?_
  refine or_iload_n E rfl dJ7_copyOfRangeByte_39247_15 ?_
  refine or_aload E rfl dJ7_copyOfRangeByte_39247_16 ?_
  refine or_iconst (v := nI 0) E rfl dJ7_copyOfRangeByte_39247_18 ?_
  refine or_aload_n E rfl dJ7_copyOfRangeByte_39247_19 ?_
  refine or_alen E dJ7_copyOfRangeByte_39247_20 hB1 ?_
  refine or_iload_n E rfl dJ7_copyOfRangeByte_39247_21 ?_
  refine or_isubN E dJ7_copyOfRangeByte_39247_22 (Nat.zero_le _) ?_
  refine or_top (y := nI m) (by rw [Nat.sub_zero]) ?_
  refine or_iload_n E rfl dJ7_copyOfRangeByte_39247_23 ?_
  refine or_mmin E lm_107_304 dJ7_copyOfRangeByte_39247_24 (Nat.le_of_ble_eq_true rfl) ⟨(Nat.le_of_ble_eq_true rfl), (by omega)⟩ (Nat.le_of_ble_eq_true rfl) ?_
  refine or_top (y := nI n) ((nI_mn (by omega) (by omega)).trans (congrArg nI (Nat.min_eq_right h1))) ?_
  refine or_bcopy (n := n) E lc_107_150 dJ7_copyOfRangeByte_39247_27 hB1 hZ1 (fun _ _ => rfl) (fun _ _ => rfl) h1 (Nat.le_refl _) (fun j _ => by rw [ow_nI_o I hbz]; exact hf j) ⟨(Nat.le_of_ble_eq_true rfl), (Nat.le_of_ble_eq_true rfl)⟩ (by omega) ?_
  refine or_aload E rfl dJ7_copyOfRangeByte_39247_30 ?_
  exact or_xr E F (fun X' E' F' => or_aret E' F' (Or.inr ⟨_, rfl⟩) (Or.inr ⟨_, rfl⟩) dJ7_copyOfRangeByte_39247_32 (Nat.le_of_ble_eq_true rfl) (by omega) (hk.1 rfl))
theorem lcl_107_310 : ow_lcl RX107 310 := ⟨ow_T_in 611 (by decide +kernel) (by decide +kernel), ow_T_in 612 (by decide +kernel) (by decide +kernel), ow_T_in 613 (by decide +kernel) (by decide +kernel), ow_T_in 614 (by decide +kernel) (by decide +kernel), ow_T_in 615 (by decide +kernel) (by decide +kernel)⟩
set_option maxRecDepth 100000 in
set_option maxHeartbeats 400000 in
theorem cj7_copyOfRange {Z : Nat → Nat} {S : Nat → Option ow_Sh} {I : ow_I} {V : Nat → Nat → Value} {z b m n : Nat} (hB : S b = some (.inr (.byte, m, ow_n))) (hf : sb_Fit (I b)) (h1 : n ≤ m) (h2 : n ≤ 300) (h3 : m ≤ 602) : ow_Cx Z yJ7_copyOfRange_39247 cJ7_copyOfRange_39247 3 (some (.array .byte)) 3 1 300 [.ref b, .int (nI 0), .int (nI n)] (S, I, V, z) (ox_s (ow_nS S z (.inr (.byte, n, ow_n))) V (z + 1) 0 (some (.ref z)) (ow_cp (ow_nI I z) b z n)) := by
  refine ow_Cx.off rfl (Nat.le_of_ble_eq_true rfl) (fun X K E G F hk => ?_)
  have E : ow_E X RX107 cJ7_copyOfRange_39247 3 (ow_rm 3 1 300) := E
  refine or_lv [(0, .ref b), (1, .int (nI 0)), (2, .int (nI n))] rfl ?_
  refine or_ltz (fun hlt => ?_)
  have hbz : b ≠ z := by
    have := hlt b _ hB
    omega
  refine or_iload_n E rfl dJ7_copyOfRange_39247_0 ?_
  refine or_if_neN (a := 0) 10 E dJ7_copyOfRange_39247_1 rfl (by decide) (fun q => absurd rfl q) (fun _ => ?_)
  refine or_iload_n E rfl dJ7_copyOfRange_39247_4 ?_
  refine or_aload_n E rfl dJ7_copyOfRange_39247_5 ?_
  refine or_alen E dJ7_copyOfRange_39247_6 hB ?_
  by_cases e : n = m
  · refine or_icmp_eqN 17 E dJ7_copyOfRange_39247_7 rfl (by omega) (by omega) (fun _ => ?_) (fun q => absurd e q)
    subst e
    refine or_aload_n E rfl dJ7_copyOfRange_39247_17 ?_
    refine or_clone E lcl_107_310 (og_15 G) dJ7_copyOfRange_39247_18 hB hf hbz (by omega) (Nat.le_of_ble_eq_true rfl) (Nat.le_of_ble_eq_true rfl) (by omega) ?_
    refine or_castB E (ow_T_in 617 (by decide +kernel) (by decide +kernel)) dJ7_copyOfRange_39247_21 (ow_nS_s S z _) ?_
    exact or_xr E F (fun X' E' F' => or_aret E' F' (Or.inr ⟨_, rfl⟩) (Or.inr ⟨_, rfl⟩) dJ7_copyOfRange_39247_24 (Nat.le_of_ble_eq_true rfl) (by omega) (hk.1 rfl))
  · refine or_icmp_eqN 17 E dJ7_copyOfRange_39247_7 rfl (by omega) (by omega) (fun q => absurd q e) (fun _ => ?_)
    refine or_aload_n E rfl dJ7_copyOfRange_39247_10 ?_
    refine or_iload_n E rfl dJ7_copyOfRange_39247_11 ?_
    refine or_iload_n E rfl dJ7_copyOfRange_39247_12 ?_
    refine or_fT3r (cj7_copyOfRangeByte (Z := Z) hB hf h1 h2 h3) E G F lk_107_339 dJ7_copyOfRange_39247_13 (by decide) (by decide) ⟨by omega, by omega⟩ (Nat.le_of_ble_eq_true rfl) (fun _ => ?_) (fun h => absurd h (Nat.lt_irrefl 0))
    exact or_xr E F (fun X' E' F' => or_aret E' F' (Or.inr ⟨_, rfl⟩) (Or.inr ⟨_, rfl⟩) dJ7_copyOfRange_39247_16 (Nat.le_of_ble_eq_true rfl) (by omega) (hk.1 rfl))
set_option maxRecDepth 100000 in
set_option maxHeartbeats 400000 in
theorem cj5_getValue {Z : Nat → Nat} {S : Nat → Option ow_Sh} {I : ow_I} {V : Nat → Nat → Value} {z o b : Nat} (hS : sb_S S o) (hb : V o 0 = .ref b) : ow_Cx Z yJ5_getValue_6d5f1 cJ5_getValue_6d5f1 1 (some (.array .byte)) 0 0 0 [.ref o] (S, I, V, z) (ox_s S V z 0 (some (.ref b)) I) := by
  refine ow_Cx.off rfl (Nat.le_of_ble_eq_true rfl) (fun X K E G F hk => ?_)
  have E : ow_E X RX105 cJ5_getValue_6d5f1 1 (ow_rm 0 0 0) := E
  refine or_lv [(0, .ref o)] rfl ?_
  refine or_aload_n E rfl dJ5_getValue_6d5f1_0 ?_
  refine ot_getV E fl_105_15 dJ5_getValue_6d5f1_1 hS rfl ?_
  rw [hb]
  exact or_xr E F (fun X' E' F' => or_aret E' F' (Or.inr ⟨_, rfl⟩) (Or.inr ⟨_, rfl⟩) dJ5_getValue_6d5f1_4 (Nat.le_of_ble_eq_true rfl) (Nat.le_of_ble_eq_true rfl) (hk.1 rfl))
