/-! CALLS OVER A PART OF THE HEAP: the rest stays as it was -/
def frm (S : Nat → Option ow_Sh) (I : ow_I) (V : Nat → Nat → Value) (S2 : Nat → Option ow_Sh) (J : ow_I) (V2 : Nat → Nat → Value) : Prop := ∀ (a : Nat) (sh : ow_Sh), S a = some sh → S2 a = some sh ∧ (∀ k, I a k = J a k) ∧ ∀ k, V a k = V2 a k
theorem ow_at.mv {D : va_G} {U : State} {S S2 : Nat → Option ow_Sh} {I J : ow_I} {V V2 : Nat → Nat → Value} {z z2 : Nat} {H : Heap} {a : Nat} {sh : ow_Sh} (hI : ∀ k, I a k = J a k) (hV : ∀ k, V a k = V2 a k) (h : ow_at D U (S, I, V, z) H a sh) : ow_at D U (S2, J, V2, z2) H a sh := by
  cases sh with
  | inl o =>
    obtain ⟨r, g1, g2⟩ := h
    exact ⟨r, g1, g2.to (fun k _ => by show ow_v _ (I a k) (V a k) = ow_v _ (J a k) (V2 a k); rw [hI k, hV k])⟩
  | inr x =>
    obtain ⟨cA, g1, g2, g3⟩ := h
    refine ⟨cA, ?_, g2, g3⟩
    have e2 : (fun j => ow_v (x.2.2 j) (I a j) (V a j)) = (fun j => ow_v (x.2.2 j) (J a j) (V2 a j)) := by
      funext j
      rw [hI j, hV j]
    show H[a]? = some (arrV cA x.2.1 (fun j => ow_v (x.2.2 j) (J a j) (V2 a j)))
    rw [← e2]
    exact g1
theorem ow_at.kp {D : va_G} {U : State} {h : ow_H} {H H1 : Heap} {a : Nat} {sh : ow_Sh} (e : H1[a]? = H[a]?) (hh : ow_at D U h H a sh) : ow_at D U h H1 a sh := by
  cases sh with
  | inl o =>
    obtain ⟨r, g1, g2⟩ := hh
    exact ⟨r, g1, (g2.kept e).to (fun _ _ => rfl)⟩
  | inr x =>
    obtain ⟨cA, g1, g2, g3⟩ := hh
    exact ⟨cA, e.trans g1, g2, g3⟩
theorem frm.sub {S S2 : Nat → Option ow_Sh} {I J : ow_I} {V V2 : Nat → Nat → Value} {z : Nat} {D : va_G} {U : State} {H : Heap} (hf : frm S I V S2 J V2) (hR : ow_R D U (S2, J, V2, z) H) : ow_R D U (S, I, V, z) H :=
  ⟨fun a sh hs => (hR.1 a sh (hf a sh hs).1).mv (fun k => ((hf a sh hs).2.1 k).symm) (fun k => ((hf a sh hs).2.2 k).symm), hR.2⟩
theorem frm.rf {S : Nat → Option ow_Sh} {I : ow_I} {V : Nat → Nat → Value} : frm S I V S I V := fun _ _ h => ⟨h, fun _ => rfl, fun _ => rfl⟩
section FRM
variable {X : ow_X} {cs sl : Nat} {pc : Nat} {lv : List (Nat × Value)} {st : List Value} {own : String} {cc : ByteArray} {nL kR mcR msR : Nat} {Z : Nat → Nat} {S S2 : Nat → Option ow_Sh} {I J : ow_I} {V V2 : Nat → Nat → Value} {z : Nat}
/-- what is described is forgotten -/
theorem or_fg (hf : frm S I V S2 J V2) (k : ow_W X cs sl (S, I, V, z) pc lv st) : ow_W X cs sl (S2, J, V2, z) pc lv st := by
  obtain ⟨p, l, e, R, s, m, args, below, meth, c, Q, D, A⟩ := X
  intro H locs ls hR hD hSS hl
  exact k H locs ls (hf.sub hR) (fun q sh hq => hD q sh (hf q sh hq).1) hSS hl
theorem oy_aftQ {p : Program} {l : Launch} {e : Env} {R : Room} {s : State} {m : MethodId} {args : Array Value} {below : List Frame} {meth : Method} {c : Code} {Q : State → Prop} {D : va_G} {A : Nat → Prop} {mc ms : Nat} {H : Heap} {locs : List Loc} {ls : Array Slot} {st0 : List Value} {a : Array Value} {Kc : Nat → Option Value → ow_H → Prop} {r0 : Option Value}
    (hf : frm S I V S2 J V2) (hR : ow_R D s (S2, J, V2, z) H) (hD : ∀ (q : Nat) (sh : ow_Sh), S2 q = some sh → A q) (hA : ∀ q, s.heap.size ≤ q → A q) (hSS : va_S A s.heap H locs) (hl : lv_has ls c.maxLocals lv)
    (hr : vx_Run p l e R s m args below meth c H locs cs sl mc ms (F0 m pc ls st0) st (ow_Qc D (fun r h1 => Kc 0 r h1) (S, I, V, z) a) (ox_XC D Kc (S, I, V, z)) (ow_Dm (S, I, V, z)))
    (hK : ∀ (c' : Nat) (r : Option Value) (h1 : ow_H), Kc c' r h1 → c' = 0 ∧ r = r0 ∧ h1 = (S, I, V, z))
    (kk : ow_W (p, l, e, R, s, m, args, below, meth, c, Q, D, A) (cs + mc) (sl + ms) (S2, J, V2, z) (pc + 3) lv (r0.toList ++ st)) : W p l e R s m args below meth c H locs cs sl Q (F0 m pc ls st0) := by
  have hDA : ∀ q, ow_Dm (S, I, V, z) q → A q := fun q hq => by
    rcases hq with ⟨sh, hq⟩ | hq
    · exact hD q sh (hf q sh hq).1
    · exact hA q (Nat.le_trans hSS.1 (by rw [hR.2]; exact hq))
  intro T hT X
  rcases hr T hT X with ⟨v, st₀, t, T', L, g0, X', hL, e1, e2, ⟨⟨r, h1, hv, hk, hR1, hd1⟩, hz, hk1⟩, stp⟩ | ⟨q, st₀, t, T', L, E, ce, g0, X', hL, e1, e2, ⟨⟨c', h1, rfl, hc', hk, hR1, hd1⟩, hz, hk1⟩, hce, hcv, hcl, stp⟩
  · cases hv
    rw [g0] at hz hk1
    obtain ⟨-, rfl, rfl⟩ := hK _ _ _ hk
    have hs1 : ow_R D s (S, I, V, z) T'.heap := by rw [e1]; exact hR1.moved (by rw [← e2]; exact X'.warmed.alike.symm)
    have hb : ow_R D s (S2, J, V2, z) T'.heap := by
      refine ⟨fun a sh hs => ?_, hs1.2⟩
      cases hSa : S a with
      | some sh' =>
        obtain ⟨q1, q2, q3⟩ := hf a sh' hSa
        cases q1.symm.trans hs
        exact (hs1.1 a _ hSa).mv q2 q3
      | none =>
        have hlt : a < z := hR.lt hs
        have hz2 : H.size = z := hR.2
        refine (hR.1 a sh hs).kp ?_
        rw [e1, hk1 a (by omega) (fun hd => by
          rcases hd with ⟨sh2, h2⟩ | h2
          · rw [show S a = some sh2 from h2] at hSa; cases hSa
          · exact absurd (show z ≤ a from h2) (by omega))]
    obtain ⟨t2, a1, b1⟩ := kk T'.heap (locs ++ L) ls hb hD
      ⟨Nat.le_trans hSS.1 (by rw [e1]; exact hz), fun q g1 g2 => by rw [e1, hk1 q (Nat.lt_of_lt_of_le g1 hSS.1) (fun z => g2 (hDA q z))]; exact hSS.2.1 q g1 g2, fun q hq => by
        rcases List.mem_append.mp hq with h | h
        · exact hSS.2.2 q h
        · exact hDA _ (hL q h)⟩ hl T' rfl X'
    exact ⟨t2, stp t2 a1, b1⟩
  · exact absurd (hK _ _ _ hk).1 (Nat.pos_iff_ne_zero.mp hc')
variable {y : MethodName} {cy : ByteArray} {n idx k mc ms na : Nat} {ret : Option FieldType} {r9 : Option Value}
theorem or_qV {b ci : Nat} {κ : Nat → Option (Option Value)} {r0 : vw_C} (As : List Value) (hf : frm S I V S2 J V2) (hC : ow_Cx Z y cy n ret k mc ms (.ref b :: As) (S, I, V, z) (ox_s S V z 0 r9 I)) (E : ow_E X own cc nL (ow_rm kR mcR msR)) (G : og_G X Z) (L : ow_lv own idx y cy n ret na) (d : decode cc pc = .ok (.invokevirtual idx, 3)) (hS : S b = some (.inl (ci, κ))) (hc : ow_cl[ci]? = some r0) (hy : r0.1 = y.cls)
    (hn : As.length = na) (hk : k + 1 ≤ kR) (hn2 : n ≤ 20) (hm : cs + mc ≤ mcR ∧ sl + ms ≤ msR) (hst : (st.map fun v => v.category).sum ≤ 8)
    (kk : ow_W X (cs + mc) (sl + ms) (S2, J, V2, z) (pc + 3) lv (r9.toList ++ st)) : ow_W X cs sl (S2, J, V2, z) pc lv (As.reverse ++ .ref b :: st) := by
  obtain ⟨p, l, e, R, s, m, args, below, meth, c, Q, D, A⟩ := X
  obtain ⟨hx, hb, hown, hts, hK, hA, hml, rfl⟩ := E
  obtain ⟨w1, w2, w3, w4, w5, w6⟩ := L
  intro H locs ls hR hD hSS hl
  have hGI : GoodIn ow_T (wsV own idx y.cls y (Cond.code y cy n ret :: ow_T)) := fun w hw => by
    have hw' : w = Cond.methodLink own idx y ∨ w = Cond.instanceMethod y ∨ w = Cond.selects y.cls y y ∨ w = Cond.initialized y.cls ∨ w ∈ (Cond.code y cy n ret :: ow_T) := by simpa [wsV] using hw
    rcases hw' with rfl | rfl | rfl | rfl | h1
    · exact ow_T_good _ w1
    · exact ow_T_good _ w2
    · exact ow_T_good _ w3
    · exact ow_T_good _ w4
    · exact ow_good_code w5 w h1
  have cw := cwV (R := ow_rm kR mcR msR) (rm := ow_rm k mc ms) (mc := mc) (ms := ms) na hts hGI rfl rfl rfl ⟨rfl, w6⟩ ⟨hk, by show 8 + (n + 11) + 40 * k ≤ 40 * kR; omega⟩
  have hRs := hf.sub hR
  have hDs : ∀ (q : Nat) (sh : ow_Sh), S q = some sh → A q := fun q sh hq => hD q sh (hf q sh hq).1
  exact oy_aftQ hf hR hD hA hSS hl (vx_runV (As := As) (rest := st) ⟨hx, hb, rfl, hown, hts⟩ (hC l D G.2) cw ⟨ox_Pc_blind Z D _ (S, I, V, z), by have := ow_recv hK hRs hS hc; rw [hy] at this; exact this, fun U hU hW => ⟨⟨rfl, by rw [hU]; exact hRs.moved hW.alike, va_K.moved hW.alike hK⟩, ox_gl G.1 hRs hDs hA hSS hU hW⟩⟩ rfl hn hl.1 rfl (lv_room hst) d hm)
    (fun c' r h1 q => ⟨q.1, (q.2.1 rfl).1, (q.2.1 rfl).2⟩) kk
theorem or_qT (As : List Value) (hf : frm S I V S2 J V2) (hC : ow_Cx Z y cy n ret k mc ms As (S, I, V, z) (ox_s S V z 0 r9 I)) (E : ow_E X own cc nL (ow_rm kR mcR msR)) (G : og_G X Z) (L : ow_lt own idx y cy n ret na) (d : decode cc pc = .ok (.invokestatic idx, 3))
    (hn : As.length = na) (hk : k + 1 ≤ kR) (hn2 : n ≤ 20) (hm : cs + mc ≤ mcR ∧ sl + ms ≤ msR) (hst : (st.map fun v => v.category).sum ≤ 8)
    (kk : ow_W X (cs + mc) (sl + ms) (S2, J, V2, z) (pc + 3) lv (r9.toList ++ st)) : ow_W X cs sl (S2, J, V2, z) pc lv (As.reverse ++ st) := by
  obtain ⟨p, l, e, R, s, m, args, below, meth, c, Q, D, A⟩ := X
  obtain ⟨hx, hb, hown, hts, hK, hA, hml, rfl⟩ := E
  obtain ⟨w1, w2, w3, w4, w5⟩ := L
  intro H locs ls hR hD hSS hl
  have hGI : GoodIn ow_T (va_wsS own idx y (Cond.code y cy n ret :: ow_T)) := fun w hw => by
    have hw' : w = Cond.methodLink own idx y ∨ w = Cond.static y ∨ w = Cond.initialized y.cls ∨ w ∈ (Cond.code y cy n ret :: ow_T) := by simpa [va_wsS] using hw
    rcases hw' with rfl | rfl | rfl | h1
    · exact ow_T_good _ w1
    · exact ow_T_good _ w2
    · exact ow_T_good _ w3
    · exact ow_good_code w4 w h1
  have cw := va_cwS (R := ow_rm kR mcR msR) (rm := ow_rm k mc ms) (mc := mc) (ms := ms) na hts hGI rfl rfl rfl w5 ⟨hk, by show 8 + (n + 11) + 40 * k ≤ 40 * kR; omega⟩
  have hRs := hf.sub hR
  have hDs : ∀ (q : Nat) (sh : ow_Sh), S q = some sh → A q := fun q sh hq => hD q sh (hf q sh hq).1
  exact oy_aftQ hf hR hD hA hSS hl (vx_runS (As := As) (rest := st) ⟨hx, hb, rfl, hown, hts⟩ (hC l D G.2) cw ⟨ox_Pc_blind Z D _ (S, I, V, z), fun U hU hW => ⟨⟨rfl, by rw [hU]; exact hRs.moved hW.alike, va_K.moved hW.alike hK⟩, ox_gl G.1 hRs hDs hA hSS hU hW⟩⟩ rfl hn hl.1 rfl (lv_room hst) d hm)
    (fun c' r h1 q => ⟨q.1, (q.2.1 rfl).1, (q.2.1 rfl).2⟩) kk
end FRM
