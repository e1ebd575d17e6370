/-! CALLS, over the own frame -/
def ow_mx (y : MethodName) (na : Nat) : Prop := y.cls ≠ "java/lang/invoke/MethodHandle" ∧ y.cls ≠ "java/lang/invoke/VarHandle" ∧ (parseMethodDescriptor y.desc).map (fun d => d.parameters.length) = some na
def ow_lv (own : String) (idx : Nat) (y : MethodName) (cy : ByteArray) (n : Nat) (ret : Option FieldType) (na : Nat) : Prop := Cond.methodLink own idx y ∈ ow_T ∧ Cond.instanceMethod y ∈ ow_T ∧ Cond.selects y.cls y y ∈ ow_T ∧ Cond.initialized y.cls ∈ ow_T ∧ Cond.code y cy n ret ∈ ow_T ∧ ow_mx y na
def ow_ls (own : String) (idx : Nat) (y : MethodName) (cy : ByteArray) (n : Nat) (ret : Option FieldType) (na : Nat) : Prop := y.cls = own ∧ Cond.methodLink own idx y ∈ ow_T ∧ Cond.static y ∈ ow_T ∧ Cond.initialized own ∈ ow_T ∧ Cond.code y cy n ret ∈ ow_T ∧ ow_mx y na
def ow_li (own : String) (idx : Nat) (y : MethodName) (cy : ByteArray) (n : Nat) (na : Nat) : Prop := Cond.methodLink own idx y ∈ ow_T ∧ Cond.instanceMethod y ∈ ow_T ∧ Cond.initialized y.cls ∈ ow_T ∧ Cond.code y cy n none ∈ ow_T ∧ y.name = "<init>" ∧ ow_mx y na
theorem ow_good_code {y : MethodName} {cy : ByteArray} {n : Nat} {ret : Option FieldType} (h : Cond.code y cy n ret ∈ ow_T) : GoodIn ow_T (Cond.code y cy n ret :: ow_T) := fun w hw => by
  rcases List.mem_cons.mp hw with rfl | h1
  · exact ow_T_good _ h
  · exact ow_T_good _ h1
theorem ow_Pc_blind (D : va_G) (as : List Value) (h : ow_H) : FrameBlind (ow_Pc D as h) := fun a U g mk q => ⟨q.1, q.2.1.moved (u := U) (U := U.calling g mk a) (Vm.Alike.refl U.vm), va_K.moved (u := U) (U := U.calling g mk a) (Vm.Alike.refl U.vm) q.2.2⟩
theorem ow_recv {D : va_G} {s : State} {h : ow_H} {H : Heap} {b ci : Nat} {κ : Nat → Option (Option Value)} {r : vw_C} (hK : va_K D ow_cl [] s) (hR : ow_R D s h H) (hS : h.1 b = some (.inl (ci, κ))) (hc : ow_cl[ci]? = some r) : ∃ cell : Cell, H[b]? = some cell ∧ cell.vm.isStatics = false ∧ s.vm.findClass r.1 = some cell.cls := by
  obtain ⟨r', h1, cell, q1, q2, q3, q4⟩ := hR.1 b _ hS
  exact ⟨cell, q1, by rw [q3]; rfl, by rw [q2]; exact (hK.1 ci _ hc).2.1⟩
section OWC
variable {X : ow_X} {cs sl : Nat} {h : ow_H} {pc : Nat} {lv : List (Nat × Value)} {st : List Value} {own : String} {cc : ByteArray} {nL kR mR sR : Nat}
variable {y : MethodName} {cy : ByteArray} {n idx k mc ms na : Nat} {ret : Option FieldType} {P : List Value → ow_H → Prop} {K : List Value → ow_H → Option Value → ow_H → Prop}
/-- behind a call -/
theorem ow_after {p : Program} {l : Launch} {e : Env} {R : Room} {s : State} {m : MethodId} {args : Array Value} {below : List Frame} {meth : Method} {c : Code} {Q : State → Prop} {D : va_G} {A : Nat → Prop} {H : Heap} {locs : List Loc} {ls : Array Slot} {st0 : List Value} {a : Array Value} {Kc : Option Value → ow_H → Prop}
    (hR : ow_R D s h H) (hD : ∀ (q : Nat) (sh : ow_Sh), h.1 q = some sh → A q) (hA : ∀ q, s.heap.size ≤ q → A q) (hSS : va_S A s.heap H locs) (hl : lv_has ls c.maxLocals lv)
    (hr : va_Run p l e R s m args below meth c H locs cs sl mc ms (F0 m pc ls st0) st (ow_Qc D Kc h a) (ow_Dm h))
    (kk : ∀ (r : Option Value) (h1 : ow_H), Kc r h1 → ow_W (p, l, e, R, s, m, args, below, meth, c, Q, D, A) (cs + mc) (sl + ms) h1 (pc + 3) lv (r.toList ++ st)) : W p l e R s m args below meth c H locs cs sl Q (F0 m pc ls st0) := by
  have hDA : ∀ q, ow_Dm h q → A q := fun q hq => by
    rcases hq with ⟨sh, hq⟩ | hq
    · exact hD q sh hq
    · exact hA q (Nat.le_trans hSS.1 (by rw [hR.2]; exact hq))
  intro T hT X
  obtain ⟨v, st₀, t, T', L, h0, X', hL, e1, e2, ⟨⟨r, h1, hv, hk, hR1, hd1⟩, hz, hk1⟩, st⟩ := hr T hT X
  cases hv
  rw [h0] at hz hk1
  obtain ⟨t2, a1, b1⟩ := kk v h1 hk T'.heap (locs ++ L) ls (by rw [e1]; exact hR1.moved (by rw [← e2]; exact X'.warmed.alike.symm)) (fun q sh hq => hDA q (hd1 q sh hq))
    ⟨Nat.le_trans hSS.1 (by rw [e1]; exact hz), fun q g1 g2 => by rw [e1, hk1 q (Nat.lt_of_lt_of_le g1 hSS.1) (fun z => g2 (hDA q z))]; exact hSS.2.1 q g1 g2, fun q hq => by
      rcases List.mem_append.mp hq with h | h
      · exact hSS.2.2 q h
      · exact hDA _ (hL q h)⟩ hl T' rfl X'
  exact ⟨t2, st t2 a1, b1⟩
theorem or_callV {b ci : Nat} {κ : Nat → Option (Option Value)} {r0 : vw_C} (As : List Value) (hC : ow_C y cy n ret k mc ms P K) (E : ow_E X own cc nL (ow_rm kR mR sR)) (L : ow_lv own idx y cy n ret na) (d : decode cc pc = .ok (.invokevirtual idx, 3)) (hS : h.1 b = some (.inl (ci, κ))) (hc : ow_cl[ci]? = some r0) (hy : r0.1 = y.cls)
    (hn : As.length = na) (hk : k + 1 ≤ kR) (hn2 : n ≤ 20) (hm : cs + mc ≤ mR ∧ sl + ms ≤ sR) (hst : (st.map fun v => v.category).sum ≤ 8) (hP : P (.ref b :: As) h)
    (kk : ∀ (r : Option Value) (h1 : ow_H), K (.ref b :: As) h r h1 → ow_W X (cs + mc) (sl + ms) h1 (pc + 3) lv (r.toList ++ st)) : ow_W X cs sl h pc lv (As.reverse ++ .ref b :: st) := by
  obtain ⟨p, l, e, R, s, m, args, below, meth, c, Q, D, A⟩ := X
  obtain ⟨hx, hb, hown, hts, hK, hA, hml, rfl⟩ := E
  obtain ⟨w1, w2, w3, w4, w5, w6⟩ := L
  intro H locs ls hR hD hSS hl
  have hGI : GoodIn ow_T (wsV own idx y.cls y (Cond.code y cy n ret :: ow_T)) := fun w hw => by
    have hw' : w = Cond.methodLink own idx y ∨ w = Cond.instanceMethod y ∨ w = Cond.selects y.cls y y ∨ w = Cond.initialized y.cls ∨ w ∈ (Cond.code y cy n ret :: ow_T) := by simpa [wsV] using hw
    rcases hw' with rfl | rfl | rfl | rfl | h1
    · exact ow_T_good _ w1
    · exact ow_T_good _ w2
    · exact ow_T_good _ w3
    · exact ow_T_good _ w4
    · exact ow_good_code w5 w h1
  have cw := cwV (R := ow_rm kR mR sR) (rm := ow_rm k mc ms) (mc := mc) (ms := ms) na hts hGI rfl rfl rfl ⟨rfl, w6⟩ ⟨hk, by show 8 + (n + 11) + 40 * k ≤ 40 * kR; omega⟩
  refine ow_after hR hD hA hSS hl (va_runV (As := As) (rest := st) ⟨hx, hb, rfl, hown, hts⟩ (hC l D (.ref b :: As) h hP) cw ⟨ow_Pc_blind D _ h, by have := ow_recv hK hR hS hc; rw [hy] at this; exact this, fun U hU hW => ⟨rfl, by rw [hU]; exact hR.moved hW.alike, va_K.moved hW.alike hK⟩⟩ rfl hn hl.1 rfl (lv_room hst) d hm) kk
theorem or_callS (As : List Value) (hC : ow_C y cy n ret k mc ms P K) (E : ow_E X own cc nL (ow_rm kR mR sR)) (L : ow_ls own idx y cy n ret na) (d : decode cc pc = .ok (.invokestatic idx, 3))
    (hn : As.length = na) (hk : k + 1 ≤ kR) (hn2 : n ≤ 20) (hm : cs + mc ≤ mR ∧ sl + ms ≤ sR) (hst : (st.map fun v => v.category).sum ≤ 8) (hP : P As h)
    (kk : ∀ (r : Option Value) (h1 : ow_H), K As h r h1 → ow_W X (cs + mc) (sl + ms) h1 (pc + 3) lv (r.toList ++ st)) : ow_W X cs sl h pc lv (As.reverse ++ st) := by
  obtain ⟨p, l, e, R, s, m, args, below, meth, c, Q, D, A⟩ := X
  obtain ⟨hx, hb, hown, hts, hK, hA, hml, rfl⟩ := E
  obtain ⟨w0, w1, w2, w3, w4, w5⟩ := L
  intro H locs ls hR hD hSS hl
  have hGI : GoodIn ow_T (wsS own idx y (Cond.code y cy n ret :: ow_T)) := fun w hw => by
    have hw' : w = Cond.methodLink own idx y ∨ w = Cond.static y ∨ w = Cond.initialized own ∨ w ∈ (Cond.code y cy n ret :: ow_T) := by simpa [wsS] using hw
    rcases hw' with rfl | rfl | rfl | h1
    · exact ow_T_good _ w1
    · exact ow_T_good _ w2
    · exact ow_T_good _ w3
    · exact ow_good_code w4 w h1
  have cw := cwS (R := ow_rm kR mR sR) (rm := ow_rm k mc ms) (mc := mc) (ms := ms) na hts hGI rfl rfl rfl ⟨w0, w5⟩ ⟨hk, by show 8 + (n + 11) + 40 * k ≤ 40 * kR; omega⟩
  refine ow_after hR hD hA hSS hl (va_runS (As := As) (rest := st) ⟨hx, hb, rfl, hown, hts⟩ (hC l D As h hP) cw ⟨ow_Pc_blind D _ h, fun U hU hW => ⟨rfl, by rw [hU]; exact hR.moved hW.alike, va_K.moved hW.alike hK⟩⟩ rfl hn hl.1 rfl (lv_room hst) d hm) kk
theorem or_callI {b : Nat} (As : List Value) (hC : ow_C y cy n none k mc ms P K) (E : ow_E X own cc nL (ow_rm kR mR sR)) (L : ow_li own idx y cy n na) (d : decode cc pc = .ok (.invokespecial idx, 3))
    (hn : As.length = na) (hk : k + 1 ≤ kR) (hn2 : n ≤ 20) (hm : cs + mc ≤ mR ∧ sl + ms ≤ sR) (hst : (st.map fun v => v.category).sum ≤ 8) (hP : P (.ref b :: As) h)
    (kk : ∀ (r : Option Value) (h1 : ow_H), K (.ref b :: As) h r h1 → ow_W X (cs + mc) (sl + ms) h1 (pc + 3) lv (r.toList ++ st)) : ow_W X cs sl h pc lv (As.reverse ++ .ref b :: st) := by
  obtain ⟨p, l, e, R, s, m, args, below, meth, c, Q, D, A⟩ := X
  obtain ⟨hx, hb, hown, hts, hK, hA, hml, rfl⟩ := E
  obtain ⟨w1, w2, w3, w4, w5, w6⟩ := L
  intro H locs ls hR hD hSS hl
  have cw := cwI (R := ow_rm kR mR sR) (rm := ow_rm k mc ms) (mc := mc) (ms := ms) na hts (ow_good_code w4) rfl rfl rfl (hts _ w3) (hts _ w1) (hts _ w2) w5 w6 ⟨hk, by show 8 + (n + 11) + 40 * k ≤ 40 * kR; omega⟩
  refine ow_after hR hD hA hSS hl (va_runI (As := As) (rest := st) ⟨hx, hb, rfl, hown, hts⟩ (hC l D (.ref b :: As) h hP) cw ⟨ow_Pc_blind D _ h, fun U hU hW => ⟨rfl, by rw [hU]; exact hR.moved hW.alike, va_K.moved hW.alike hK⟩⟩ rfl hn hl.1 rfl (lv_room hst) d hm) kk
end OWC
