/-! ROWS: a cell made at the heap's end; calls of methods of a class above; a run of bytes copied -/
def ow_nS (S : Nat → Option ow_Sh) (a : Nat) (sh : ow_Sh) : Nat → Option ow_Sh := fun b => if b = a then some sh else S b
def ow_nI (I : ow_I) (a : Nat) : ow_I := fun b j => if b = a then 0 else I b j
def ow_nV (V : Nat → Nat → Value) (a : Nat) (f : Nat → Value) : Nat → Nat → Value := fun b j => if b = a then f j else V b j
theorem ow_nS_s (S : Nat → Option ow_Sh) (a : Nat) (sh : ow_Sh) : ow_nS S a sh a = some sh := if_pos rfl
theorem ow_nS_o (S : Nat → Option ow_Sh) {a b : Nat} (sh : ow_Sh) (h : b ≠ a) : ow_nS S a sh b = S b := if_neg h
theorem ow_nI_s (I : ow_I) (a j : Nat) : ow_nI I a a j = 0 := if_pos rfl
theorem ow_nI_o (I : ow_I) {a b : Nat} (h : b ≠ a) : ow_nI I a b = I b := by
  funext j
  exact if_neg h
theorem ow_nV_s (V : Nat → Nat → Value) (a : Nat) (f : Nat → Value) (j : Nat) : ow_nV V a f a j = f j := if_pos rfl
theorem ow_nV_o (V : Nat → Nat → Value) {a b : Nat} (f : Nat → Value) (h : b ≠ a) : ow_nV V a f b = V b := by
  funext j
  exact if_neg h
theorem ow_at_lt {D : va_G} {U : State} {h : ow_H} {H : Heap} {a : Nat} {sh : ow_Sh} (q : ow_at D U h H a sh) : a < H.size := by
  cases sh with
  | inl o =>
    obtain ⟨r, -, cell, q, -⟩ := q
    exact (Array.getElem?_eq_some_iff.mp q).1
  | inr x =>
    obtain ⟨cA, q, -⟩ := q
    exact (Array.getElem?_eq_some_iff.mp q).1
theorem ow_R.lt {D : va_G} {U : State} {h : ow_H} {H : Heap} (hR : ow_R D U h H) {a : Nat} {sh : ow_Sh} (hs : h.1 a = some sh) : a < h.2.2.2 := by
  rw [← hR.2]
  exact ow_at_lt (hR.1 a sh hs)
/-- a cell more -/
theorem ow_R.new {D : va_G} {U : State} {S : Nat → Option ow_Sh} {I I1 : ow_I} {V V1 : Nat → Nat → Value} {z : Nat} {H H1 : Heap} (hR : ow_R D U (S, I, V, z) H) {sh : ow_Sh} (z1 : H1.size = H.size + 1) (oq : ∀ q : Nat, q < H.size → H1[q]? = H[q]?)
    (hI : ∀ b j, b ≠ z → I1 b j = I b j) (hV : ∀ b j, b ≠ z → V1 b j = V b j) (hat : ow_at D U (ow_nS S z sh, I1, V1, z + 1) H1 z sh) : ow_R D U (ow_nS S z sh, I1, V1, z + 1) H1 := by
  have hz : H.size = z := hR.2
  refine ⟨fun b s2 hs => ?_, by show H1.size = z + 1; rw [z1, hz]⟩
  by_cases e : b = z
  · have e2 : some sh = some s2 := by
      rw [← hs, e]
      exact (ow_nS_s S z sh).symm
    cases e2
    rw [e]
    exact hat
  · have hs' : S b = some s2 := (ow_nS_o S sh e).symm.trans hs
    have h1 := hR.1 b s2 hs'
    have hb := ow_at_lt h1
    cases s2 with
    | inl o =>
      obtain ⟨r, g1, g2⟩ := h1
      exact ⟨r, g1, (g2.kept (oq b hb)).to (fun k _ => by show ow_v _ (I b k) (V b k) = ow_v _ (I1 b k) (V1 b k); rw [hI b k e, hV b k e])⟩
    | inr x =>
      obtain ⟨cA, g1, g2, g3⟩ := h1
      refine ⟨cA, ?_, g2, g3⟩
      have e2 : (fun j => ow_v (x.2.2 j) (I b j) (V b j)) = (fun j => ow_v (x.2.2 j) (I1 b j) (V1 b j)) := by
        funext j
        rw [hI b j e, hV b j e]
      show H1[b]? = some (arrV cA x.2.1 (fun j => ow_v (x.2.2 j) (I1 b j) (V1 b j)))
      rw [oq b hb, ← e2]
      exact g1
section RS
variable {X : ow_X} {cs sl : Nat} {S : Nat → Option ow_Sh} {I : ow_I} {V : Nat → Nat → Value} {z : Nat} {pc : Nat} {lv : List (Nat × Value)} {st : List Value} {own : String} {cc : ByteArray} {nL : Nat} {R0 : Room} {Z : Nat → Nat} {h h0 : ow_H} {K : Nat → Option Value → ow_H → Prop} {kR mcR msR : Nat} {retR : Option FieldType} {nmR : String}
theorem or_ltz (k : (∀ (a : Nat) (sh : ow_Sh), S a = some sh → a < z) → ow_W X cs sl (S, I, V, z) pc lv st) : ow_W X cs sl (S, I, V, z) pc lv st := by
  obtain ⟨p, l, e, R, s, m, args, below, meth, c, Q, D, A⟩ := X
  intro H locs ls hR hD hSS hl
  exact k (fun a sh hs => hR.lt hs) H locs ls hR hD hSS hl
/-- an array of ints, bytes, booleans made -/
theorem or_newa {atype : ArrayType} {N : Nat} {κ : Nat → Option (Option Value)} (E : ow_E X own cc nL (ow_rm kR mcR msR)) (hw : Cond.arrayClass (newarray.typeOf atype) ∈ ow_T) (hd : defaultValue (newarray.typeOf atype) = .int 0) (hκ : ∀ j, κ j = none) (d : decode cc pc = .ok (.newarray atype, 2)) (hN : N < 2 ^ 31) (hby : N * componentBytes (newarray.typeOf atype) ≤ 536870912) (hc : cs + 1 ≤ mcR) (hs : sl + N ≤ msR)
    (k : ow_W X (cs + 1) (sl + N) (ow_nS S z (.inr (newarray.typeOf atype, N, κ)), ow_nI I z, V, z + 1) (pc + 2) lv (.ref z :: st)) : ow_W X cs sl (S, I, V, z) pc lv (.int (nI N) :: st) := by
  obtain ⟨p, l, e, R, s, m, args, below, meth, c, Q, D, A⟩ := X
  obtain ⟨hx, hb, hown, hts, hK, hA, hml, rfl⟩ := E
  intro H locs ls hR hD hSS hl
  have hz : H.size = z := hR.2
  refine va_newaK hx hb (atype := atype) (hts _ hw) rfl d rfl (nI_pos hN) (nI_clamp hN) hby hc hs hz fun H1 cA e1 z1 o1 hAr hNm => ?_
  refine k H1 locs ls (hR.new (by rw [z1, hz]) (fun q hq => o1 q (by rw [← hz]; exact hq)) (fun b j hb => by rw [ow_nI_o I hb]) (fun _ _ _ => rfl) ⟨cA, ?_, hAr, by cases atype <;> exact hNm⟩) (fun q sh hq => ?_) ⟨Nat.le_trans hSS.1 (by omega), fun x h1 h2 => (o1 x (by have := hSS.1; omega)).trans (hSS.2.1 x h1 h2), hSS.2.2⟩ hl
  · have e2 : (fun _ : Nat => defaultValue (newarray.typeOf atype)) = (fun j => ow_v (κ j) (ow_nI I z z j) (V z j)) := by
      funext j
      rw [hκ j, ow_nI_s, hd]
      rfl
    rw [e2] at e1
    exact e1
  · by_cases e9 : q = z
    · exact hA q (by have := hSS.1; omega)
    · exact hD q sh ((ow_nS_o S _ e9).symm.trans hq)
/-- an object made -/
theorem or_newO {C : String} {T : u_T} {N ci idx : Nat} {κ : Nat → Option (Option Value)} {f : Nat → Value} {ty : Nat → FieldType} (E : ow_E X own cc nL (ow_rm kR mcR msR)) (w1 : Cond.classLink own idx C ∈ ow_T) (w2 : Cond.instantiable C N ∈ ow_T) (w3 : Cond.initialized C ∈ ow_T) (hc : ow_cl[ci]? = some (C, T, N)) (ok : ow_ok (C, T, N)) (hty : ∀ k, k < N → parseFieldDescriptor (T k).2.2.1 = some (ty k))
    (hf : ∀ k, k < N → defaultValue (ty k) = ow_v (κ k) 0 (f k)) (d : decode cc pc = .ok (.new idx, 3)) (hcs : cs + 1 ≤ mcR) (hsl : sl + N ≤ msR)
    (k : ow_W X (cs + 1) (sl + N) (ow_nS S z (.inl (ci, κ)), ow_nI I z, ow_nV V z f, z + 1) (pc + 3) lv (.ref z :: st)) : ow_W X cs sl (S, I, V, z) pc lv st := by
  obtain ⟨p, l, e, R, s, m, args, below, meth, c, Q, D, A⟩ := X
  obtain ⟨hx, hb, hown, hts, hK, hA, hml, rfl⟩ := E
  intro H locs ls hR hD hSS hl
  have hz : H.size = z := hR.2
  have hKn := hK.1 ci _ hc
  refine W.newcK hx hb hown (hts _ w1) (hts _ w2) (hts _ w3) rfl d hcs hsl hKn.2.1 hz fun H1 kC hkC e1 z1 o1 => ?_
  refine k H1 locs ls (hR.new (by rw [z1, hz]) (fun q hq => o1 q (by rw [← hz]; exact hq)) (fun b j hb => by rw [ow_nI_o I hb]) (fun b j hb => by rw [ow_nV_o V f hb]) ⟨_, hc, (u_born ty hts ok.1 hKn hkC e1 hty).to (fun j hj => ?_)⟩) (fun q sh hq => ?_) ⟨Nat.le_trans hSS.1 (by omega), fun x h1 h2 => (o1 x (by have := hSS.1; omega)).trans (hSS.2.1 x h1 h2), hSS.2.2⟩ hl
  · show defaultValue (ty j) = ow_v (κ j) (ow_nI I z z j) (ow_nV V z f z j)
    rw [ow_nI_s, ow_nV_s]
    exact hf j hj
  · by_cases e9 : q = z
    · exact hA q (by have := hSS.1; omega)
    · exact hD q sh ((ow_nS_o S _ e9).symm.trans hq)
variable {y : MethodName} {cy : ByteArray} {n idx k mc ms na : Nat} {ret : Option FieldType} {Kc : Nat → Option Value → ow_H → Prop}
/-- 'super.m(..)' -/
def ow_lw (own : String) (idx : Nat) (y : MethodName) (cy : ByteArray) (n : Nat) (ret : Option FieldType) (na : Nat) : Prop := Cond.methodLink own idx y ∈ ow_T ∧ Cond.sameMethod y.cls y.cls y.name y.desc ∈ ow_T ∧ Cond.superclass own y.cls ∈ ow_T ∧ Cond.instanceMethod y ∈ ow_T ∧ Cond.initialized y.cls ∈ ow_T ∧ Cond.code y cy n ret ∈ ow_T ∧ y.name ≠ "<init>" ∧ (parseMethodDescriptor y.desc).map (fun d => d.parameters.length) = some na
theorem or_xSU {b ci : Nat} {κ : Nat → Option (Option Value)} {r0 : vw_C} (As : List Value) (hC : ow_Cx Z y cy n ret k mc ms (.ref b :: As) h Kc) (E : ow_E X own cc nL (ow_rm kR mcR msR)) (G : og_G X Z) (F : ox_F X h0 K mcR msR retR nmR) (L : ow_lw own idx y cy n ret na) (d : decode cc pc = .ok (.invokespecial idx, 3)) (hS : h.1 b = some (.inl (ci, κ))) (hc : ow_cl[ci]? = some r0)
    (hn : As.length = na) (hk : k + 1 ≤ kR) (hn2 : n ≤ 20) (hm : cs + mc ≤ mcR ∧ sl + ms ≤ msR) (hst : (st.map fun v => v.category).sum ≤ 8)
    (kk : ∀ (r : Option Value) (h1 : ow_H), Kc 0 r h1 → ow_W X (cs + mc) (sl + ms) h1 (pc + 3) lv (r.toList ++ st)) (kx : ∀ (c' : Nat) (h1 : ow_H), 0 < c' → Kc c' none h1 → K c' none h1) : ow_W X cs sl h pc lv (As.reverse ++ .ref b :: st) := by
  obtain ⟨p, l, e, R, s, m, args, below, meth, c, Q, D, A⟩ := X
  obtain ⟨hx, hb, hown, hts, hK, hA, hml, rfl⟩ := E
  obtain ⟨w1, w2, w3, w4, w5, w6, w7, w8⟩ := L
  intro H locs ls hR hD hSS hl
  have hGI : GoodIn ow_T (va_wsSU own idx y (Cond.code y cy n ret :: ow_T)) := fun w hw => by
    have hw' : w = Cond.methodLink own idx y ∨ w = Cond.sameMethod y.cls y.cls y.name y.desc ∨ w = Cond.superclass own y.cls ∨ w = Cond.instanceMethod y ∨ w = Cond.initialized y.cls ∨ w ∈ (Cond.code y cy n ret :: ow_T) := by simpa [va_wsSU] using hw
    rcases hw' with rfl | rfl | rfl | rfl | rfl | h1
    · exact ow_T_good _ w1
    · exact ow_T_good _ w2
    · exact ow_T_good _ w3
    · exact ow_T_good _ w4
    · exact ow_T_good _ w5
    · exact ow_good_code w6 w h1
  have cw := va_cwSU (R := ow_rm kR mcR msR) (rm := ow_rm k mc ms) (mc := mc) (ms := ms) na hts hGI rfl rfl rfl ⟨w7, w8⟩ ⟨hk, by show 8 + (n + 11) + 40 * k ≤ 40 * kR; omega⟩
  refine ox_after F hR hD hA hSS hl hm (vx_runSU (As := As) (rest := st) (hK.1 ci _ hc).2 ⟨hx, hb, rfl, hown, hts⟩ (hC l D G.2) cw ⟨ox_Pc_blind Z D _ h, ow_recv hK hR hS hc, fun U hU hW => ⟨⟨rfl, by rw [hU]; exact hR.moved hW.alike, va_K.moved hW.alike hK⟩, ox_gl G.1 hR hD hA hSS hU hW⟩⟩ rfl hn hl.1 rfl (lv_room hst) d hm) kk kx
/-- a method of a class above, of an object of a class of the list; who is called is told by the states -/
def ow_ld (own : String) (idx : Nat) (y : MethodName) (cy : ByteArray) (n : Nat) (ret : Option FieldType) (na : Nat) : Prop := Cond.methodLink own idx y ∈ ow_T ∧ Cond.sameMethod y.cls y.cls y.name y.desc ∈ ow_T ∧ Cond.instanceMethod y ∈ ow_T ∧ Cond.initialized y.cls ∈ ow_T ∧ Cond.code y cy n ret ∈ ow_T ∧ ow_mx y na
def ow_sel (C : String) (y : MethodName) : Prop := ∀ (s : State) (args : Array Value), (∀ w ∈ ow_T, w.before args s = true) → (Cond.selects C y y).before args s = true
theorem or_xVd {b ci : Nat} {κ : Nat → Option (Option Value)} {r0 : vw_C} (As : List Value) (hC : ow_Cx Z y cy n ret k mc ms (.ref b :: As) h Kc) (E : ow_E X own cc nL (ow_rm kR mcR msR)) (G : og_G X Z) (F : ox_F X h0 K mcR msR retR nmR) (L : ow_ld own idx y cy n ret na) (d : decode cc pc = .ok (.invokevirtual idx, 3)) (hS : h.1 b = some (.inl (ci, κ))) (hc : ow_cl[ci]? = some r0) (hsel : ow_sel r0.1 y)
    (hn : As.length = na) (hk : k + 1 ≤ kR) (hn2 : n ≤ 20) (hm : cs + mc ≤ mcR ∧ sl + ms ≤ msR) (hst : (st.map fun v => v.category).sum ≤ 8)
    (kk : ∀ (r : Option Value) (h1 : ow_H), Kc 0 r h1 → ow_W X (cs + mc) (sl + ms) h1 (pc + 3) lv (r.toList ++ st)) (kx : ∀ (c' : Nat) (h1 : ow_H), 0 < c' → Kc c' none h1 → K c' none h1) : ow_W X cs sl h pc lv (As.reverse ++ .ref b :: st) := by
  obtain ⟨p, l, e, R, s, m, args, below, meth, c, Q, D, A⟩ := X
  obtain ⟨hx, hb, hown, hts, hK, hA, hml, rfl⟩ := E
  obtain ⟨w1, w2, w3, w4, w5, w6⟩ := L
  intro H locs ls hR hD hSS hl
  have cw : va_CU (ow_rm kR mcR msR) s args own r0.1 y.cls idx y y cy n ret (Cond.code y cy n ret :: ow_T) (ow_rm k mc ms) mc ms na := by
    refine ⟨⟨rfl, rfl, hk, by show 8 + (n + 11) + 40 * k ≤ 40 * kR; omega, pay_in hts (ow_good_code w5), List.mem_cons_self⟩, hts _ w5, hts _ w4, ⟨w6.1, w6.2.1⟩, fun sig hs => ?_, hts _ w1, hts _ w2, va_Decl.of (hts _ w3) (hts _ w5), hsel s args hts, hts _ w3⟩
    have h2 := w6.2.2
    rw [hs] at h2
    exact (Option.some.inj h2).symm
  refine ox_after F hR hD hA hSS hl hm (vx_runU (As := As) (rest := st) ⟨hx, hb, rfl, hown, hts⟩ (hC l D G.2) cw ⟨ox_Pc_blind Z D _ h, ow_recv hK hR hS hc, fun U hU hW => ⟨⟨rfl, by rw [hU]; exact hR.moved hW.alike, va_K.moved hW.alike hK⟩, ox_gl G.1 hR hD hA hSS hU hW⟩⟩ rfl hn hl.1 rfl (lv_room hst) d hm) kk kx
/-- a private method is the one that is called, of every object -/
theorem ow_sel_priv {C : String} {x0 y0 : MethodName} {s : State} {args : Array Value} (w0 : (Cond.selects C x0 y0).before args s = true) (hc : y0.cls = y.cls) (hy : y.cls ≠ "java/lang/invoke/MethodHandle" ∧ y.cls ≠ "java/lang/invoke/VarHandle") (w1 : (Cond.privateMethod y).before args s = true) (w2 : (Cond.instanceMethod y).before args s = true) : (Cond.selects C y y).before args s = true := by
  obtain ⟨cC, _, m0, a1, -, a3, -, kC, a5, a6⟩ := Cond.selects_spec w0
  obtain ⟨mk, me, b1, b2, -, -⟩ := Cond.instanceMethod_spec w2
  have f1 : s.methodFound? y.cls y.name y.desc = some mk := State.methodFound?_of_named b1 hy
  have f2 : mk.cls = m0.cls := by
    have e1 := findClass_of_methodNamed b1
    have e2 := findClass_of_methodNamed a3
    rw [hc, e1] at e2
    exact Option.some.inj e2
  have f3 : selectMethod {} s.vm cC mk = .method mk := selectMethod_private b2 (Cond.privateMethod_at w1 mk me b1 b2)
  simp only [Cond.before, Cond.holds, Cond.value, a1, f1, b1, f3, f2, a5]
  simp
  exact a6
/-- System.arraycopy of bytes -/
theorem or_bcopy {idx n a0 a n0 n1 : Nat} {κ0 κ1 : Nat → Option (Option Value)} (E : ow_E X own cc nL R0) (L : ow_lc own idx) (d : decode cc pc = .ok (.invokestatic idx, 3)) (hS0 : S a0 = some (.inr (.byte, n0, κ0))) (hS1 : S a = some (.inr (.byte, n1, κ1))) (hk0 : ∀ j, j < n → κ0 j = none) (hk1 : ∀ j, j < n → κ1 j = none) (h0 : n ≤ n0) (h1 : n ≤ n1) (hfit : ∀ j, j < n → fits .byte (.int (I a0 j)) = true)
    (hRf : 1 ≤ R0.frames ∧ (st.map fun v => v.category).sum + (nativeFrameWords "java/lang/System" "arraycopy" 5 + 11) ≤ R0.locals) (hn : n < 2 ^ 31) (k : ow_W X cs sl (S, ow_cp I a0 a n, V, z) (pc + 3) lv st) : ow_W X cs sl (S, I, V, z) pc lv (.int (nI n) :: .int (nI 0) :: .ref a :: .int (nI 0) :: .ref a0 :: st) := by
  obtain ⟨p, l, e, R, s, m, args, below, meth, c, Q, D, A⟩ := X
  obtain ⟨hx, hb, hown, hts, hK, hA, hml, hR0⟩ := E
  obtain ⟨w1, w2, w3, w4⟩ := L
  intro H locs ls hR hD hSS hl
  subst hR0
  obtain ⟨c0, g0, t0, -⟩ := hR.1 a0 _ hS0
  obtain ⟨c1, g1, t1, r1⟩ := hR.1 a _ hS1
  intro T hT X
  obtain ⟨-, k0, hk0', cm0, hkk0⟩ := t0 n0 (fun j => ow_v (κ0 j) (I a0 j) (V a0 j))
  obtain ⟨-, k1, hk1', cm1, hkk1⟩ := t1 n1 (fun j => ow_v (κ1 j) (I a j) (V a j))
  have en : (nI n).toNatClampNeg = n := nI_clamp hn
  have e0 : (nI 0).toNatClampNeg = 0 := rfl
  have ei : (nI n).toInt = (n : Int) := nI_toInt hn
  have ez : (nI 0).toInt = 0 := by decide
  have g0' : H[a0]? = some (arrV c0 n0 (fun j => ow_v (κ0 j) (I a0 j) (V a0 j))) := g0
  have g1' : H[a]? = some (arrV c1 n1 (fun j => ow_v (κ1 j) (I a j) (V a j))) := g1
  obtain ⟨vm', X', step⟩ := X.arraycopy hx hown (hts _ w1) (hts _ w2) (hts _ w3) (hts _ w4) (src := a0) (dst := a) (srcPos := nI 0) (destPos := nI 0) (n := nI n) (by rw [hT]; exact g0') (by rw [hT]; exact g1')
    (fun _ h => by cases h) (fun _ h => by cases h) (fun h => by cases h) (fun h => by cases h) hk0' hk1' hkk0 hkk1 rfl (by decide) (by decide) (nI_pos hn)
    (by rw [ez, ei, arrV_size]; omega) (by rw [ez, ei, arrV_size]; omega)
    (fun vm₁ _ i hi => by
      rw [en] at hi
      have e : (arrV c0 n0 (fun j => ow_v (κ0 j) (I a0 j) (V a0 j))).slots.getD ((nI 0).toNatClampNeg + i) .null = .int (I a0 i) := by
        rw [Array.getD_eq_getD_getElem?, e0, Nat.zero_add, arrV_read _ _ (by omega), hk0 i hi]
        rfl
      rw [e]
      exact ⟨hfit i hi, trivial⟩)
    (g := F0 m pc ls (.int (nI n) :: .int (nI 0) :: .ref a :: .int (nI 0) :: .ref a0 :: st)) rfl hl.1 (rest := st) rfl (by rw [hb]; exact d) hRf.1 (by have := hRf.2; show 2 * 0 + _ + _ ≤ _; omega)
  have e1 : copied (arrV c0 n0 (fun j => ow_v (κ0 j) (I a0 j) (V a0 j))) (arrV c1 n1 (fun j => ow_v (κ1 j) (I a j) (V a j))) (nI 0) (nI 0) (nI n) = arrV c1 n1 (fun j => ow_v (κ1 j) (ow_cp I a0 a n a j) (V a j)) := by
    refine Eq.trans (va_copied (fun v : Value => v) c0 c1 (sp := (nI 0).toNatClampNeg) (dp := (nI 0).toNatClampNeg) (n := (nI n).toNatClampNeg) _ _ (by rw [en, e0]; omega)) ?_
    congr 1
    funext j
    rw [en, e0]
    unfold va_cpy
    by_cases hj : j < n
    · rw [if_pos (by omega), Nat.zero_add, Nat.sub_zero]
      show ow_v (κ0 j) (I a0 j) (V a0 j) = _
      rw [hk0 j hj, hk1 j hj, ow_cp_in hj]
      rfl
    · rw [if_neg (by omega), ow_cp_o (by omega)]
  rw [e1] at X' step
  have hal : a < H.size := (Array.getElem?_eq_some_iff.mp g1').1
  have hheap : ((T.setVm vm').setCell a (arrV c1 n1 (fun j => ow_v (κ1 j) (ow_cp I a0 a n a j) (V a j)))).heap = H.setIfInBounds a (arrV c1 n1 (fun j => ow_v (κ1 j) (ow_cp I a0 a n a j) (V a j))) := by rw [← hT]; rfl
  have oq : ∀ q : Nat, q ≠ a → (H.setIfInBounds a (arrV c1 n1 (fun j => ow_v (κ1 j) (ow_cp I a0 a n a j) (V a j))))[q]? = H[q]? := fun q hq => by simp [Array.getElem?_setIfInBounds, Ne.symm hq]
  have hR1 : ow_R D s (S, ow_cp I a0 a n, V, z) (H.setIfInBounds a (arrV c1 n1 (fun j => ow_v (κ1 j) (ow_cp I a0 a n a j) (V a j)))) := by
    refine hR.wr hS1 (by simp) oq (fun b j hb => by rw [ow_cp_a hb]) (fun _ _ _ => rfl) ?_
    exact ⟨c1, by simp [Array.getElem?_setIfInBounds, hal], t1, r1⟩
  have hAa : A a := hD a _ hS1
  obtain ⟨t, a1, b1⟩ := k _ _ ls hR1 hD (⟨by simp; exact hSS.1, fun q u1 u2 => by
      rw [oq q (fun e => u2 (by rw [e]; exact hAa))]
      exact hSS.2.1 q u1 u2, fun q hq => by
      rcases List.mem_append.mp hq with h | h
      · exact hSS.2.2 q h
      · obtain ⟨y, -, hy⟩ := List.mem_map.mp h
        rw [← hy]
        exact hAa⟩) hl _ hheap X'
  exact ⟨t, step t a1, b1⟩
end RS
