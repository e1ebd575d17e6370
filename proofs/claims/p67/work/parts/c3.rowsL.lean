/-! THE LAW'S OWN ROWS: longs and doubles in arrays, the script, calls of methods that catch, calls that can't throw -/
section LWR
variable {X : ow_X} {cs sl : Nat} {h : ow_H} {pc : Nat} {lv : List (Nat × Value)} {st : List Value} {own : String} {cc : ByteArray} {nL : Nat} {R0 : Room} {S : Nat → Option ow_Sh} {I : ow_I} {V : Nat → Nat → Value} {z : Nat}
/-- less was made than is counted -/
theorem or_wd {cs' sl' : Nat} (hc : cs ≤ cs') (hs : sl ≤ sl') (k : ow_W X cs' sl' h pc lv st) : ow_W X cs sl h pc lv st := by
  obtain ⟨p, l, e, R, s, m, args, below, meth, c, Q, D, A⟩ := X
  intro H locs ls hR hD hSS hl
  exact W.widen hc hs (k H locs ls hR hD hSS hl)
theorem or_lcmp {x y : Int64} (E : ow_E X own cc nL R0) (d : decode cc pc = .ok (.lcmp, 1)) (k : ow_W X cs sl h (pc + 1) lv (.int (lg_cmp x y) :: st)) : ow_W X cs sl h pc lv (.long y :: .long x :: st) := by
  obtain ⟨p, l, e, R, s, m, args, below, meth, c, Q, D, A⟩ := X
  obtain ⟨hx, hb, hown, hts, hK, hA, hml, hR0⟩ := E
  intro H locs ls hR hD hSS hl
  exact W.lcmp hx hb d (k H locs ls hR hD hSS hl)
theorem or_lald {a n j : Nat} {x : Int32} {v : Value} {κ : Nat → Option (Option Value)} (E : ow_E X own cc nL R0) (d : decode cc pc = .ok (.laload, 1)) (hS : h.1 a = some (.inr (.long, n, κ))) (hk : κ j = some none) (hv : h.2.2.1 a j = v) (hx : x = nI j) (hj : j < n) (hn : n < 2 ^ 31) (k : ow_W X cs sl h (pc + 1) lv (v :: st)) : ow_W X cs sl h pc lv (.int x :: .ref a :: st) := by
  obtain ⟨hi, hc⟩ := ow_ix hx hj hn
  obtain ⟨p, l, e, R, s, m, args, below, meth, c, Q, D, A⟩ := X
  obtain ⟨hx0, hb, hown, hts, hK, hA, hml, hR0⟩ := E
  intro H locs ls hR hD hSS hl
  obtain ⟨cA, g1, g2, g3⟩ := hR.1 a _ hS
  exact W.lald (v := v) hx0 hb g1 (g2 n _) (fun q => by cases q) (by show ¬ (x < 0 ∨ (arrV _ _ _).slots.size ≤ _); rw [arrV_size]; exact hi) (by rw [hc]; show (arrV _ _ _).slots[_]? = _; rw [arrV_read _ _ hj]; show some (ow_v (κ j) _ _) = _; rw [hk, ← hv]; rfl) rfl rfl d (k H locs ls hR hD hSS hl)
theorem or_dald {a n j : Nat} {x : Int32} {v : Value} {κ : Nat → Option (Option Value)} (E : ow_E X own cc nL R0) (d : decode cc pc = .ok (.daload, 1)) (hS : h.1 a = some (.inr (.double, n, κ))) (hk : κ j = some none) (hv : h.2.2.1 a j = v) (hx : x = nI j) (hj : j < n) (hn : n < 2 ^ 31) (k : ow_W X cs sl h (pc + 1) lv (v :: st)) : ow_W X cs sl h pc lv (.int x :: .ref a :: st) := by
  obtain ⟨hi, hc⟩ := ow_ix hx hj hn
  obtain ⟨p, l, e, R, s, m, args, below, meth, c, Q, D, A⟩ := X
  obtain ⟨hx0, hb, hown, hts, hK, hA, hml, hR0⟩ := E
  intro H locs ls hR hD hSS hl
  obtain ⟨cA, g1, g2, g3⟩ := hR.1 a _ hS
  exact W.dald (v := v) hx0 hb g1 (g2 n _) (fun q => by cases q) (by show ¬ (x < 0 ∨ (arrV _ _ _).slots.size ≤ _); rw [arrV_size]; exact hi) (by rw [hc]; show (arrV _ _ _).slots[_]? = _; rw [arrV_read _ _ hj]; show some (ow_v (κ j) _ _) = _; rw [hk, ← hv]; rfl) rfl rfl d (k H locs ls hR hD hSS hl)
theorem or_last {a n j : Nat} {x : Int32} {w : Int64} {κ : Nat → Option (Option Value)} (E : ow_E X own cc nL R0) (d : decode cc pc = .ok (.lastore, 1)) (hS : h.1 a = some (.inr (.long, n, κ))) (hk : κ j = some none) (hx : x = nI j) (hj : j < n) (hn : n < 2 ^ 31) (k : ow_W X cs sl (ow_pV h a j (.long w)) (pc + 1) lv st) : ow_W X cs sl h pc lv (.long w :: .int x :: .ref a :: st) := by
  obtain ⟨hi, hc⟩ := ow_ix hx hj hn
  obtain ⟨p, l, e, R, s, m, args, below, meth, c, Q, D, A⟩ := X
  obtain ⟨hx0, hb, hown, hts, hK, hA, hml, hR0⟩ := E
  intro H locs ls hR hD hSS hl
  obtain ⟨cA, g1, g2, g3⟩ := hR.1 a _ hS
  refine W.last hx0 hb g1 (g2 n _) (fun q => by cases q) (by show ¬ (x < 0 ∨ (arrV _ _ _).slots.size ≤ _); rw [arrV_size]; exact hi) rfl rfl d fun H1 e z oq => ?_
  refine k H1 _ ls (hR.wr hS z oq (fun _ _ _ => rfl) (fun b i hb => ow_u_a _ _ _ _ hb i) ⟨cA, ?_, g2, g3⟩) hD (hSS.put z oq (hD a _ hS)) hl
  rw [e, hc, arrV_store]
  congr 2
  funext i
  by_cases hij : i = j
  · subst hij
    show updV _ _ _ _ = ow_v (κ i) _ (ow_u h.2.2.1 a i _ a i)
    rw [ow_u_s, hk]
    simp [updV, ow_v]
  · show updV _ _ _ _ = ow_v (κ i) _ (ow_u h.2.2.1 a j _ a i)
    rw [ow_u_k _ _ _ _ hij]
    simp [updV, hij]
theorem or_dast {a n j : Nat} {x : Int32} {w : UInt64} {κ : Nat → Option (Option Value)} (E : ow_E X own cc nL R0) (d : decode cc pc = .ok (.dastore, 1)) (hS : h.1 a = some (.inr (.double, n, κ))) (hk : κ j = some none) (hx : x = nI j) (hj : j < n) (hn : n < 2 ^ 31) (k : ow_W X cs sl (ow_pV h a j (.double w)) (pc + 1) lv st) : ow_W X cs sl h pc lv (.double w :: .int x :: .ref a :: st) := by
  obtain ⟨hi, hc⟩ := ow_ix hx hj hn
  obtain ⟨p, l, e, R, s, m, args, below, meth, c, Q, D, A⟩ := X
  obtain ⟨hx0, hb, hown, hts, hK, hA, hml, hR0⟩ := E
  intro H locs ls hR hD hSS hl
  obtain ⟨cA, g1, g2, g3⟩ := hR.1 a _ hS
  refine W.dast hx0 hb g1 (g2 n _) (fun q => by cases q) (by show ¬ (x < 0 ∨ (arrV _ _ _).slots.size ≤ _); rw [arrV_size]; exact hi) rfl rfl d fun H1 e z oq => ?_
  refine k H1 _ ls (hR.wr hS z oq (fun _ _ _ => rfl) (fun b i hb => ow_u_a _ _ _ _ hb i) ⟨cA, ?_, g2, g3⟩) hD (hSS.put z oq (hD a _ hS)) hl
  rw [e, hc, arrV_store]
  congr 2
  funext i
  by_cases hij : i = j
  · subst hij
    show updV _ _ _ _ = ow_v (κ i) _ (ow_u h.2.2.1 a i _ a i)
    rw [ow_u_s, hk]
    simp [updV, ow_v]
  · show updV _ _ _ _ = ow_v (κ i) _ (ow_u h.2.2.1 a j _ a i)
    rw [ow_u_k _ _ _ _ hij]
    simp [updV, hij]
/-- an array of longs or doubles made: its places are other values -/
theorem or_newV {atype : ArrayType} {N kR mcR msR : Nat} (E : ow_E X own cc nL (ow_rm kR mcR msR)) (hw : Cond.arrayClass (newarray.typeOf atype) ∈ ow_T) (d : decode cc pc = .ok (.newarray atype, 2)) (hN : N < 2 ^ 31) (hby : N * componentBytes (newarray.typeOf atype) ≤ 536870912) (hc : cs + 1 ≤ mcR) (hs : sl + N ≤ msR)
    (k : ow_W X (cs + 1) (sl + N) (ow_nS S z (.inr (newarray.typeOf atype, N, fun _ => some none)), ow_nI I z, ow_nV V z (fun _ => defaultValue (newarray.typeOf atype)), z + 1) (pc + 2) lv (.ref z :: st)) : ow_W X cs sl (S, I, V, z) pc lv (.int (nI N) :: st) := by
  obtain ⟨p, l, e, R, s, m, args, below, meth, c, Q, D, A⟩ := X
  obtain ⟨hx, hb, hown, hts, hK, hA, hml, rfl⟩ := E
  intro H locs ls hR hD hSS hl
  have hz : H.size = z := hR.2
  refine va_newaK hx hb (atype := atype) (hts _ hw) rfl d rfl (nI_pos hN) (nI_clamp hN) hby hc hs hz fun H1 cA e1 z1 o1 hAr hNm => ?_
  refine k H1 locs ls (hR.new (by rw [z1, hz]) (fun q hq => o1 q (by rw [← hz]; exact hq)) (fun b j hb => by rw [ow_nI_o I hb]) (fun b j hb => by rw [ow_nV_o V _ hb]) ⟨cA, ?_, hAr, by cases atype <;> exact hNm⟩) (fun q sh hq => ?_) ⟨Nat.le_trans hSS.1 (by omega), fun x h1 h2 => (o1 x (by have := hSS.1; omega)).trans (hSS.2.1 x h1 h2), hSS.2.2⟩ hl
  · have e2 : (fun _ : Nat => defaultValue (newarray.typeOf atype)) = (fun j => ow_v (some none) (ow_nI I z z j) (ow_nV V z (fun _ => defaultValue (newarray.typeOf atype)) z j)) := by
      funext j
      show _ = ow_nV V z (fun _ => defaultValue (newarray.typeOf atype)) z j
      rw [ow_nV_s]
    rw [e2] at e1
    exact e1
  · by_cases e9 : q = z
    · exact hA q (by have := hSS.1; omega)
    · exact hD q sh ((ow_nS_o S _ e9).symm.trans hq)
/-- the script: an old cell that no walk writes -/
def og_s (X : ow_X) (b L : Nat) (xs : Nat → Int32) : Prop := match X with | (_, _, _, _, s, _, _, _, _, _, _, _, A) => va_X b L xs s s.heap ∧ b < s.heap.size ∧ ¬ A b
theorem or_sld {b L j : Nat} {xs : Nat → Int32} (E : ow_E X own cc nL R0) (G : og_s X b L xs) (d : decode cc pc = .ok (.iaload, 1)) (hj : j < L) (hL : L < 2 ^ 31) (k : ow_W X cs sl h (pc + 1) lv (.int (xs j) :: st)) : ow_W X cs sl h pc lv (.int (nI j) :: .ref b :: st) := by
  obtain ⟨p, l, e, R, s, m, args, below, meth, c, Q, D, A⟩ := X
  obtain ⟨hx, hb, hown, hts, hK, hA, hml, hR0⟩ := E
  obtain ⟨g1, g2, g3⟩ := G
  intro H locs ls hR hD hSS hl
  refine va_sld hx hb g1 g2 g3 hSS (vp_in_nI hj hL) d ?_
  rw [nI_clamp (by omega)]
  exact k H locs ls hR hD hSS hl
theorem or_slen {b L : Nat} {xs : Nat → Int32} (E : ow_E X own cc nL R0) (G : og_s X b L xs) (d : decode cc pc = .ok (.arraylength, 1)) (k : ow_W X cs sl h (pc + 1) lv (.int (nI L) :: st)) : ow_W X cs sl h pc lv (.ref b :: st) := by
  obtain ⟨p, l, e, R, s, m, args, below, meth, c, Q, D, A⟩ := X
  obtain ⟨hx, hb, hown, hts, hK, hA, hml, hR0⟩ := E
  obtain ⟨g1, g2, g3⟩ := G
  intro H locs ls hR hD hSS hl
  exact va_slen hx hb g1 g2 g3 hSS d (k H locs ls hR hD hSS hl)
/-- int places that hold another value anyway: the memory of ints may be another there -/
theorem or_ghs {I2 : ow_I} (hg : ∀ (a k : Nat), I2 a k ≠ I a k → ∃ (ci : Nat) (κ : Nat → Option (Option Value)), S a = some (.inl (ci, κ)) ∧ κ k = some none) (kk : ow_W X cs sl (S, I2, V, z) pc lv st) : ow_W X cs sl (S, I, V, z) pc lv st := by
  obtain ⟨p, l, e, R, s, m, args, below, meth, c, Q, D, A⟩ := X
  intro H locs ls hR hD hSS hl
  refine kk H locs ls ⟨fun a sh hs => ?_, hR.2⟩ hD hSS hl
  have h1 := hR.1 a sh hs
  cases sh with
  | inl o =>
    obtain ⟨r, g1, g2⟩ := h1
    refine ⟨r, g1, g2.to (fun k _ => ?_)⟩
    show ow_v (o.2 k) (I a k) (V a k) = ow_v (o.2 k) (I2 a k) (V a k)
    by_cases e9 : I2 a k = I a k
    · rw [e9]
    · obtain ⟨ci, κ, q1, q2⟩ := hg a k e9
      cases q1.symm.trans hs
      show ow_v (κ k) _ _ = ow_v (κ k) _ _
      rw [q2]
      rfl
  | inr x =>
    obtain ⟨cA, g1, g2, g3⟩ := h1
    refine ⟨cA, ?_, g2, g3⟩
    have e2 : (fun j => ow_v (x.2.2 j) (I2 a j) (V a j)) = (fun j => ow_v (x.2.2 j) (I a j) (V a j)) := by
      funext j
      by_cases e9 : I2 a j = I a j
      · rw [e9]
      · obtain ⟨ci, κ, q1, q2⟩ := hg a j e9
        cases q1.symm.trans hs
    show H[a]? = some (arrV cA x.2.1 (fun j => ow_v (x.2.2 j) (I2 a j) (V a j)))
    rw [e2]
    exact g1
end LWR
/-! CALLS -/
section LWC
variable {X : ow_X} {cs sl : Nat} {h : ow_H} {pc : Nat} {lv : List (Nat × Value)} {st : List Value} {own : String} {cc : ByteArray} {nL kR mcR msR : Nat} {Z : Nat → Nat}
/-- behind a call of a method that may throw: what becomes of the throw is asked -/
theorem oy_after {p : Program} {l : Launch} {e : Env} {R : Room} {s : State} {m : MethodId} {args : Array Value} {below : List Frame} {meth : Method} {c : Code} {Q : State → Prop} {D : va_G} {A : Nat → Prop} {mc ms : Nat} {H : Heap} {locs : List Loc} {ls : Array Slot} {st0 : List Value} {a : Array Value} {Kc : Nat → Option Value → ow_H → Prop}
    (hR : ow_R D s h H) (hD : ∀ (q : Nat) (sh : ow_Sh), h.1 q = some sh → A q) (hA : ∀ q, s.heap.size ≤ q → A q) (hSS : va_S A s.heap H locs) (hl : lv_has ls c.maxLocals lv)
    (hr : vx_Run p l e R s m args below meth c H locs cs sl mc ms (F0 m pc ls st0) st (ow_Qc D (fun r h1 => Kc 0 r h1) h a) (ox_XC D Kc h) (ow_Dm h))
    (kk : ∀ (r : Option Value) (h1 : ow_H), Kc 0 r h1 → ow_W (p, l, e, R, s, m, args, below, meth, c, Q, D, A) (cs + mc) (sl + ms) h1 (pc + 3) lv (r.toList ++ st))
    (kx : ∀ (c' : Nat) (h1 : ow_H) (H1 : Heap) (L1 : List Loc) (q : Addr) (ce : Cell), 0 < c' → Kc c' none h1 → ow_R D s h1 H1 → (∀ (q : Nat) (sh : ow_Sh), h1.1 q = some sh → A q) → va_S A s.heap H1 L1 → H1[q]? = some ce → ce.vm = .none → s.vm.findClass (ow_ex c') = some ce.cls → vx_W p l e R s m args below meth c H1 L1 (cs + mc) (sl + ms) Q (F0 m pc ls st) q) : W p l e R s m args below meth c H locs cs sl Q (F0 m pc ls st0) := by
  have hDA : ∀ q, ow_Dm h q → A q := fun q hq => by
    rcases hq with ⟨sh, hq⟩ | hq
    · exact hD q sh hq
    · exact hA q (Nat.le_trans hSS.1 (by rw [hR.2]; exact hq))
  intro T hT X
  rcases hr T hT X with ⟨v, st₀, t, T', L, g0, X', hL, e1, e2, ⟨⟨r, h1, hv, hk, hR1, hd1⟩, hz, hk1⟩, stp⟩ | ⟨q, st₀, t, T', L, E, ce, g0, X', hL, e1, e2, ⟨⟨c', h1, rfl, hc', hk, hR1, hd1⟩, hz, hk1⟩, hce, hcv, hcl, stp⟩
  · cases hv
    rw [g0] at hz hk1
    obtain ⟨t2, a1, b1⟩ := kk v h1 hk T'.heap (locs ++ L) ls (by rw [e1]; exact hR1.moved (by rw [← e2]; exact X'.warmed.alike.symm)) (fun q sh hq => hDA q (hd1 q sh hq))
      ⟨Nat.le_trans hSS.1 (by rw [e1]; exact hz), fun q g1 g2 => by rw [e1, hk1 q (Nat.lt_of_lt_of_le g1 hSS.1) (fun z => g2 (hDA q z))]; exact hSS.2.1 q g1 g2, fun q hq => by
        rcases List.mem_append.mp hq with h | h
        · exact hSS.2.2 q h
        · exact hDA _ (hL q h)⟩ hl T' rfl X'
    exact ⟨t2, stp t2 a1, b1⟩
  · rw [g0] at hz hk1
    have hS1 : va_S A s.heap T'.heap (locs ++ L) := ⟨Nat.le_trans hSS.1 (by rw [e1]; exact hz), fun q g1 g2 => by rw [e1, hk1 q (Nat.lt_of_lt_of_le g1 hSS.1) (fun z => g2 (hDA q z))]; exact hSS.2.1 q g1 g2, fun q hq => by
        rcases List.mem_append.mp hq with h | h
        · exact hSS.2.2 q h
        · exact hDA _ (hL q h)⟩
    have hR2 : ow_R D s h1 T'.heap := by rw [e1]; exact hR1.moved (by rw [← e2]; exact X'.warmed.alike.symm)
    obtain ⟨t2, a1, b1⟩ := kx c' h1 T'.heap (locs ++ L) q ce hc' hk hR2 (fun q sh hq => hDA q (hd1 q sh hq)) hS1 (by rw [e1]; exact hce) hcv hcl T' rfl X'
    exact ⟨t2, stp.trans a1, b1⟩
variable {y : MethodName} {cy : ByteArray} {n idx k mc ms na : Nat} {ret : Option FieldType} {Kc : Nat → Option Value → ow_H → Prop} {hh : List (Nat × Nat × Nat × Nat)}
/-- the body's table of handlers -/
def ow_tb (X : ow_X) (hh : List (Nat × Nat × Nat × Nat)) : Prop := match X with | (_, _, _, _, _, _, _, _, _, c, _, _, _) => c.exceptionTable.toList = tableOf hh
/-- invokevirtual in a body that catches -/
theorem or_xVH {b ci : Nat} {κ : Nat → Option (Option Value)} {r0 : vw_C} (As : List Value) (hC : ow_Cx Z y cy n ret k mc ms (.ref b :: As) h Kc) (E : ow_E X own cc nL (ow_rm kR mcR msR)) (G : og_G X Z) (T9 : ow_tb X hh) (L : ow_lv own idx y cy n ret na) (d : decode cc pc = .ok (.invokevirtual idx, 3)) (hS : h.1 b = some (.inl (ci, κ))) (hc : ow_cl[ci]? = some r0) (hy : r0.1 = y.cls)
    (hn : As.length = na) (hk : k + 1 ≤ kR) (hn2 : n ≤ 20) (hm : cs + mc ≤ mcR ∧ sl + ms ≤ msR) (hst : (st.map fun v => v.category).sum ≤ 8)
    (kk : ∀ (r : Option Value) (h1 : ow_H), Kc 0 r h1 → ow_W X (cs + mc) (sl + ms) h1 (pc + 3) lv (r.toList ++ st))
    (kx : ∀ (c' : Nat) (h1 : ow_H), 0 < c' → Kc c' none h1 → ∃ (pre : List ExceptionTableEntry) (x : ExceptionTableEntry) (suf : List ExceptionTableEntry), tableOf hh = pre ++ x :: suf ∧ (∀ z ∈ pre, z.catchType ≠ 0 ∧ ∃ nm, Cond.classLink own z.catchType nm ∈ ow_T ∧ (ow_ex c', nm) ∈ gl_ns) ∧ covers x pc = true ∧ x.catchType ≠ 0 ∧ Cond.classLink own x.catchType (ow_ex c') ∈ ow_T ∧ ow_ex c' ∈ gl_es ∧ ∀ q, ow_W X (cs + mc) (sl + ms) h1 x.handlerPc lv [.ref q]) : ow_W X cs sl h pc lv (As.reverse ++ .ref b :: st) := by
  obtain ⟨p, l, e, R, s, m, args, below, meth, c, Q, D, A⟩ := X
  obtain ⟨hx, hb, hown, hts, hK, hA, hml, rfl⟩ := E
  obtain ⟨w1, w2, w3, w4, w5, w6⟩ := L
  intro H locs ls hR hD hSS hl
  have hGI : GoodIn ow_T (wsV own idx y.cls y (Cond.code y cy n ret :: ow_T)) := fun w hw => by
    have hw' : w = Cond.methodLink own idx y ∨ w = Cond.instanceMethod y ∨ w = Cond.selects y.cls y y ∨ w = Cond.initialized y.cls ∨ w ∈ (Cond.code y cy n ret :: ow_T) := by simpa [wsV] using hw
    rcases hw' with rfl | rfl | rfl | rfl | h1
    · exact ow_T_good _ w1
    · exact ow_T_good _ w2
    · exact ow_T_good _ w3
    · exact ow_T_good _ w4
    · exact ow_good_code w5 w h1
  have cw := cwV (R := ow_rm kR mcR msR) (rm := ow_rm k mc ms) (mc := mc) (ms := ms) na hts hGI rfl rfl rfl ⟨rfl, w6⟩ ⟨hk, by show 8 + (n + 11) + 40 * k ≤ 40 * kR; omega⟩
  refine oy_after hR hD hA hSS hl (vx_runV (As := As) (rest := st) ⟨hx, hb, rfl, hown, hts⟩ (hC l D G.2) cw ⟨ox_Pc_blind Z D _ h, by have := ow_recv hK hR hS hc; rw [hy] at this; exact this, fun U hU hW => ⟨⟨rfl, by rw [hU]; exact hR.moved hW.alike, va_K.moved hW.alike hK⟩, ox_gl G.1 hR hD hA hSS hU hW⟩⟩ rfl hn hl.1 rfl (lv_room hst) d hm) kk
    (fun c' h1 H1 L1 q ce hc' hk' hR1 hD1 hS1 g1 g2 g3 => ?_)
  obtain ⟨pre, x, suf, t1, t2, t3, t4, t5, t6, t7⟩ := kx c' h1 hc' hk'
  have hg := G.1
  exact vx_catch hown pre x suf (T9.trans t1) (fun z hz => by
    obtain ⟨q1, nm, q2, q3⟩ := t2 z hz
    exact Or.inr ⟨q1, nm, hts _ q2, hg.2.2.2.2.2.2.2.2.2.2.2.2.2.1 _ q3⟩) t3 t4 (hts _ t5) (va_Nw.use rfl (hg.2.2.2.2.2.2.2.2.2.2.2.2.1 _ t6)) g1 g2 g3 (t7 q H1 L1 ls hR1 hD1 hS1 hl)
/-- invokevirtual of a method that doesn't throw here -/
theorem oy_V {b ci : Nat} {κ : Nat → Option (Option Value)} {r0 : vw_C} (As : List Value) (hC : ow_Cx Z y cy n ret k mc ms (.ref b :: As) h Kc) (E : ow_E X own cc nL (ow_rm kR mcR msR)) (G : og_G X Z) (L : ow_lv own idx y cy n ret na) (d : decode cc pc = .ok (.invokevirtual idx, 3)) (hS : h.1 b = some (.inl (ci, κ))) (hc : ow_cl[ci]? = some r0) (hy : r0.1 = y.cls)
    (hn : As.length = na) (hk : k + 1 ≤ kR) (hn2 : n ≤ 20) (hm : cs + mc ≤ mcR ∧ sl + ms ≤ msR) (hst : (st.map fun v => v.category).sum ≤ 8) (hno : ∀ (c' : Nat) (h1 : ow_H), 0 < c' → Kc c' none h1 → False)
    (kk : ∀ (r : Option Value) (h1 : ow_H), Kc 0 r h1 → ow_W X (cs + mc) (sl + ms) h1 (pc + 3) lv (r.toList ++ st)) : ow_W X cs sl h pc lv (As.reverse ++ .ref b :: st) := by
  obtain ⟨p, l, e, R, s, m, args, below, meth, c, Q, D, A⟩ := X
  obtain ⟨hx, hb, hown, hts, hK, hA, hml, rfl⟩ := E
  obtain ⟨w1, w2, w3, w4, w5, w6⟩ := L
  intro H locs ls hR hD hSS hl
  have hGI : GoodIn ow_T (wsV own idx y.cls y (Cond.code y cy n ret :: ow_T)) := fun w hw => by
    have hw' : w = Cond.methodLink own idx y ∨ w = Cond.instanceMethod y ∨ w = Cond.selects y.cls y y ∨ w = Cond.initialized y.cls ∨ w ∈ (Cond.code y cy n ret :: ow_T) := by simpa [wsV] using hw
    rcases hw' with rfl | rfl | rfl | rfl | h1
    · exact ow_T_good _ w1
    · exact ow_T_good _ w2
    · exact ow_T_good _ w3
    · exact ow_T_good _ w4
    · exact ow_good_code w5 w h1
  have cw := cwV (R := ow_rm kR mcR msR) (rm := ow_rm k mc ms) (mc := mc) (ms := ms) na hts hGI rfl rfl rfl ⟨rfl, w6⟩ ⟨hk, by show 8 + (n + 11) + 40 * k ≤ 40 * kR; omega⟩
  exact oy_after hR hD hA hSS hl (vx_runV (As := As) (rest := st) ⟨hx, hb, rfl, hown, hts⟩ (hC l D G.2) cw ⟨ox_Pc_blind Z D _ h, by have := ow_recv hK hR hS hc; rw [hy] at this; exact this, fun U hU hW => ⟨⟨rfl, by rw [hU]; exact hR.moved hW.alike, va_K.moved hW.alike hK⟩, ox_gl G.1 hR hD hA hSS hU hW⟩⟩ rfl hn hl.1 rfl (lv_room hst) d hm) kk
    (fun c' h1 _ _ _ _ hc' hk' _ _ _ _ _ _ => (hno c' h1 hc' hk').elim)
/-- a constructor that doesn't throw -/
theorem oy_I {b : Nat} (As : List Value) (hC : ow_Cx Z y cy n none k mc ms (.ref b :: As) h Kc) (E : ow_E X own cc nL (ow_rm kR mcR msR)) (G : og_G X Z) (L : ow_lz own idx y cy n na) (d : decode cc pc = .ok (.invokespecial idx, 3))
    (hn : As.length = na) (hk : k + 1 ≤ kR) (hn2 : n ≤ 20) (hm : cs + mc ≤ mcR ∧ sl + ms ≤ msR) (hst : (st.map fun v => v.category).sum ≤ 8) (hno : ∀ (c' : Nat) (h1 : ow_H), 0 < c' → Kc c' none h1 → False)
    (kk : ∀ (r : Option Value) (h1 : ow_H), Kc 0 r h1 → ow_W X (cs + mc) (sl + ms) h1 (pc + 3) lv (r.toList ++ st)) : ow_W X cs sl h pc lv (As.reverse ++ .ref b :: st) := by
  obtain ⟨p, l, e, R, s, m, args, below, meth, c, Q, D, A⟩ := X
  obtain ⟨hx, hb, hown, hts, hK, hA, hml, rfl⟩ := E
  obtain ⟨w1, w2, w3, w4, w5, w6⟩ := L
  intro H locs ls hR hD hSS hl
  have cw := callB_of (R := ow_rm kR mcR msR) (rm := ow_rm k mc ms) (mc := mc) (ms := ms) na hts (ow_good_code w4) rfl rfl rfl (hts _ w3) (hts _ w1) w6 ⟨hk, by show 8 + (n + 11) + 40 * k ≤ 40 * kR; omega⟩
  exact oy_after hR hD hA hSS hl (vx_runI (As := As) (rest := st) ⟨hx, hb, rfl, hown, hts⟩ (hC l D G.2) ⟨cw, w5, hts _ w2⟩ ⟨ox_Pc_blind Z D _ h, fun U hU hW => ⟨⟨rfl, by rw [hU]; exact hR.moved hW.alike, va_K.moved hW.alike hK⟩, ox_gl G.1 hR hD hA hSS hU hW⟩⟩ rfl hn hl.1 rfl (lv_room hst) d hm) kk
    (fun c' h1 _ _ _ _ hc' hk' _ _ _ _ _ _ => (hno c' h1 hc' hk').elim)
/-- A CONTRACT OF A METHOD THAT CATCHES (and returns always) -/
def ow_Ch (Z : Nat → Nat) (y : MethodName) (cy : ByteArray) (n : Nat) (ret : Option FieldType) (hh : List (Nat × Nat × Nat × Nat)) (k mc ms : Nat) (as : List Value) (h : ow_H) (K : Option Value → ow_H → Prop) : Prop :=
  ∀ (l : Launch) (D : va_G), l.stackTraces = false → Met l y (Cond.codeWith y cy n ret hh :: ow_T) (ow_rm k mc ms) (ox_Pc Z D as h) (ow_Qc D K h) mc ms (ow_Dm h)
theorem ow_Ch.of {as : List Value} {K : Option Value → ow_H → Prop} (hy : plainName y.cls = true) (hlen : (lg_sl as).length ≤ n)
    (body : ∀ X : ow_X, ow_E X y.cls cy n (ow_rm k mc ms) → og_G X Z → ow_tb X hh → ow_F X h K mc ms ret y.name → ow_W X 0 0 h 0 (lv_args 0 as) []) : ow_Ch Z y cy n ret hh k mc ms as h K := by
  intro l D hl0
  refine MetFree.of_bodyS (code := cy) (maxLocals := n) (ret := ret) hy ?_ ?_
  · intro args s m h hn
    obtain ⟨m9, meth, c, hn9, h1, h2, h3, h4, -, h5, h6, -⟩ := Cond.codeWith_spec (atoms_spec (ws := Cond.codeWith y cy n ret hh :: ow_T) h _ List.mem_cons_self)
    cases hn.symm.trans hn9
    exact ⟨meth, c, h1, h2, h3, h4, h5, h6⟩
  · intro p e s m args below meth c s₁ B hml hP _
    have hh0 : s₁.heap = s.heap := by rw [B.state]; rfl
    obtain ⟨⟨rfl, hR, hK⟩, hG⟩ := hP
    have hts := atoms_spec (ws := Cond.codeWith y cy n ret hh :: ow_T) B.pre
    have hown : s.vm.findClass y.cls = some m.cls := findClass_of_methodNamed B.named
    have hnm : meth.name = y.name := (name_of_methodNamed B.named B.method).1
    have hw := body (p, l, e, ow_rm k mc ms, s, m, as.toArray, below, meth, c, MQ below (ow_Qc D K h) as.toArray s mc ms (ow_Dm h), D, ow_Dm h) ⟨B.exec, B.bytes, hown, fun w hw => hts w (List.mem_cons_of_mem _ hw), hK, fun q hq => Or.inr (by rw [← hR.2]; exact hq), hml, rfl⟩ ⟨hG, hl0⟩ (vx_table (x := y) B (hts _ List.mem_cons_self)) ⟨rfl, rfl, B.returns, B.notSynchronized, hnm⟩
    have hl := lv_entry as (n := n) hlen
    have hw2 := hw s.heap [] _ hR (fun q sh hq => Or.inl ⟨sh, hq⟩) va_S.rf (by rw [hml]; exact hl)
    rw [← lg_entry_eq] at hw2
    obtain ⟨t, a1, o, b1, b2, b3⟩ := hw2 s₁ hh0 (Stand.of_body B)
    exact ⟨t, o, a1, b1, b2, ⟨b3.1, b3.2⟩⟩
/-- invokestatic of a method that catches -/
def ow_lh (own : String) (idx : Nat) (y : MethodName) (cy : ByteArray) (n : Nat) (ret : Option FieldType) (hh : List (Nat × Nat × Nat × Nat)) (na : Nat) : Prop := Cond.methodLink own idx y ∈ ow_T ∧ Cond.static y ∈ ow_T ∧ Cond.initialized y.cls ∈ ow_T ∧ Cond.codeWith y cy n ret hh ∈ ow_T ∧ ow_mx y na
theorem oy_S {K : Option Value → ow_H → Prop} (As : List Value) (hC : ow_Ch Z y cy n ret hh k mc ms As h K) (E : ow_E X own cc nL (ow_rm kR mcR msR)) (G : og_G X Z) (L : ow_lh own idx y cy n ret hh na) (d : decode cc pc = .ok (.invokestatic idx, 3))
    (hn : As.length = na) (hk : k + 1 ≤ kR) (hn2 : n ≤ 20) (hm : cs + mc ≤ mcR ∧ sl + ms ≤ msR) (hst : (st.map fun v => v.category).sum ≤ 8)
    (kk : ∀ (r : Option Value) (h1 : ow_H), K r h1 → ow_W X (cs + mc) (sl + ms) h1 (pc + 3) lv (r.toList ++ st)) : ow_W X cs sl h pc lv (As.reverse ++ st) := by
  obtain ⟨p, l, e, R, s, m, args, below, meth, c, Q, D, A⟩ := X
  obtain ⟨hx, hb, hown, hts, hK, hA, hml, rfl⟩ := E
  obtain ⟨w1, w2, w3, w4, w5⟩ := L
  intro H locs ls hR hD hSS hl
  have hGI : GoodIn ow_T (va_wsS own idx y (Cond.codeWith y cy n ret hh :: ow_T)) := fun w hw => by
    have hw' : w = Cond.methodLink own idx y ∨ w = Cond.static y ∨ w = Cond.initialized y.cls ∨ w = Cond.codeWith y cy n ret hh ∨ w ∈ ow_T := by simpa [va_wsS] using hw
    rcases hw' with rfl | rfl | rfl | rfl | h1
    · exact ow_T_good _ w1
    · exact ow_T_good _ w2
    · exact ow_T_good _ w3
    · exact ow_T_good _ w4
    · exact ow_T_good _ h1
  have cw := vx_cwSW (R := ow_rm kR mcR msR) (rm := ow_rm k mc ms) (mc := mc) (ms := ms) na hts hGI rfl rfl rfl w5 ⟨hk, by show 8 + (n + 11) + 40 * k ≤ 40 * kR; omega⟩
  exact ow_after hR hD hA hSS hl (vx_runSW (As := As) (rest := st) ⟨hx, hb, rfl, hown, hts⟩ (hC l D G.2) cw ⟨ox_Pc_blind Z D _ h, fun U hU hW => ⟨⟨rfl, by rw [hU]; exact hR.moved hW.alike, va_K.moved hW.alike hK⟩, ox_gl G.1 hR hD hA hSS hU hW⟩⟩ rfl hn hl.1 rfl (lv_room hst) d hm) kk
end LWC
