/-! ROWS OF CONSTRUCTORS: final fields, arrays of references, calls of constructors, shapes written anew -/
/-- the same values under other shapes -/
def ow_re (S S1 : Nat → Option ow_Sh) (I : ow_I) (V : Nat → Nat → Value) : Prop := ∀ (b : Nat) (sh1 : ow_Sh), S1 b = some sh1 → ∃ sh : ow_Sh, S b = some sh ∧ match sh, sh1 with
  | .inl o, .inl o1 => o.1 = o1.1 ∧ ∀ k, ow_v (o.2 k) (I b k) (V b k) = ow_v (o1.2 k) (I b k) (V b k)
  | .inr x, .inr x1 => x.1 = x1.1 ∧ x.2.1 = x1.2.1 ∧ ∀ k, ow_v (x.2.2 k) (I b k) (V b k) = ow_v (x1.2.2 k) (I b k) (V b k)
  | _, _ => False
section RC
variable {X : ow_X} {cs sl : Nat} {S : Nat → Option ow_Sh} {I : ow_I} {V : Nat → Nat → Value} {z : Nat} {pc : Nat} {lv : List (Nat × Value)} {st : List Value} {own : String} {cc : ByteArray} {nL : Nat} {R0 : Room} {Z : Nat → Nat} {h h0 : ow_H} {K : Nat → Option Value → ow_H → Prop} {kR mcR msR : Nat} {retR : Option FieldType} {nmR : String}
theorem or_re {S1 : Nat → Option ow_Sh} (hre : ow_re S S1 I V) (k : ow_W X cs sl (S1, I, V, z) pc lv st) : ow_W X cs sl (S, I, V, z) pc lv st := by
  obtain ⟨p, l, e, R, s, m, args, below, meth, c, Q, D, A⟩ := X
  intro H locs ls hR hD hSS hl
  refine k H locs ls ⟨fun b sh1 hs => ?_, hR.2⟩ (fun q sh1 hs => ?_) hSS hl
  · obtain ⟨sh, g0, g1⟩ := hre b sh1 hs
    have h1 := hR.1 b sh g0
    cases sh with
    | inl o =>
      cases sh1 with
      | inl o1 =>
        obtain ⟨ci, κ⟩ := o
        obtain ⟨ci1, κ1⟩ := o1
        obtain ⟨e1, e2⟩ := g1
        dsimp only at e1 e2
        subst e1
        obtain ⟨r, r1, r2⟩ := h1
        exact ⟨r, r1, r2.to (fun k _ => e2 k)⟩
      | inr x1 => exact g1.elim
    | inr x =>
      cases sh1 with
      | inl o1 => exact g1.elim
      | inr x1 =>
        obtain ⟨ty, N, κ⟩ := x
        obtain ⟨ty1, N1, κ1⟩ := x1
        obtain ⟨e1, e2, e3⟩ := g1
        dsimp only at e1 e2 e3
        subst e1
        subst e2
        obtain ⟨cA, r1, r2, r3⟩ := h1
        refine ⟨cA, ?_, r2, r3⟩
        have e4 : (fun j => ow_v (κ j) (I b j) (V b j)) = (fun j => ow_v (κ1 j) (I b j) (V b j)) := by
          funext j
          exact e3 j
        show H[b]? = some (arrV cA N (fun j => ow_v (κ1 j) (I b j) (V b j)))
        rw [← e4]
        exact r1
  · obtain ⟨sh, g0, -⟩ := hre q sh1 hs
    exact hD q sh g0
/-- putfield of a final field, in its class's constructor -/
theorem or_putF {ci k a idx : Nat} {κ : Nat → Option (Option Value)} {x : Value} (E : ow_E X own cc nL R0) (F : ox_F X h0 K mcR msR retR "<init>") (f : ow_fl own idx ci k) (ty1 : FieldType) (fw : ∃ r : vw_C, ow_cl[ci]? = some r ∧ (r.2.1 k).2.2.2 = true ∧ (r.2.1 k).1 = own ∧ parseFieldDescriptor (r.2.1 k).2.2.1 = some ty1) (hna : narrow ty1 x = x) (hfi : fits ty1 x = true) (d : decode cc pc = .ok (.putfield idx, 3)) (hS : h.1 a = some (.inl (ci, κ))) (hk : κ k = some none)
    (kk : ow_W X cs sl (ow_pV h a k x) (pc + 3) lv st) : ow_W X cs sl h pc lv (x :: .ref a :: st) := by
  obtain ⟨p, l, e, R, s, m, args, below, meth, c, Q, D, A⟩ := X
  obtain ⟨hx, hb, hown, hts, hK, -⟩ := E
  obtain ⟨-, -, -, -, hmn, -⟩ := F
  obtain ⟨r, hc, hkN, hlw, hin, ⟨ty, hty⟩, hnm⟩ := f
  obtain ⟨r2, hc2, hfin, hdecl, hd⟩ := fw
  cases hc.symm.trans hc2
  intro H locs ls hR hD hSS hl
  obtain ⟨r', h1, cell, q1, q2, q3, q4⟩ := hR.1 a _ hS
  cases hc.symm.trans h1
  have hap := va_apart (own := own) hts hin ty hty hnm hK (ci := ci) hc
  obtain ⟨hSl, hfc, kC, hkC, hkind⟩ := hK.1 ci _ hc
  obtain ⟨cf, kf, fi, f, hi, hsl⟩ := hSl k hkN
  have hlay := hts _ (hin _ (u_in_lay hkN))
  unfold u_lay at hlay
  rw [if_pos hfin] at hlay
  have hst := (u_facts hfc hkC (u_lays hts hin hkN) hi).1
  have hcf : m.cls = cf := by
    obtain ⟨_, _, c', _, _, _, -, -, hf', -, -, -, hown2, -⟩ := Cond.laysFinal_spec hlay
    have e1 : c' = cf := by
      have := hi.symm.trans hf'
      simp at this
      exact this.1.symm
    rw [hdecl] at hown2
    rw [← e1]
    exact Option.some.inj (hown.symm.trans hown2)
  have h6 := u_fits hfc hkC hkind (Or.inr hlay) hi hd hna hfi
  refine W.putFinK hx hb hown (hts _ hlw) hi hst hcf hmn (by rw [q2]; exact h6) q1 q3 (by rw [hsl]; exact k2_hasslot (q4 k hkN)) rfl rfl d fun H1 e1 e2 e3 => ?_
  rw [hsl] at e1 ⊢
  refine kk H1 _ ls (hR.wr hS e2 e3 (fun _ _ _ => rfl) (fun b j hb => ow_u_a _ _ _ _ hb j) ⟨_, hc, ?_⟩) hD (hSS.put e2 e3 (hD a _ hS)) hl
  refine t_OB.to (V := updV (fun k => ow_v (κ k) (h.2.1 a k) (h.2.2.1 a k)) k x) ⟨_, e1, q2, q3, t_set q4 hap hkN x⟩ (fun j _ => ?_)
  by_cases hj : j = k
  · subst hj
    show updV _ _ _ _ = ow_v (κ j) _ (ow_u h.2.2.1 a j x a j)
    rw [ow_u_s, hk]
    simp [updV, ow_v]
  · show updV _ _ _ _ = ow_v (κ j) _ (ow_u h.2.2.1 a k x a j)
    rw [ow_u_k _ _ _ _ hj]
    simp [updV, hj]
/-- an array of references made -/
theorem or_newR {C : String} {N idx : Nat} (E : ow_E X own cc nL (ow_rm kR mcR msR)) (w1 : Cond.classLink own idx C ∈ ow_T) (w2 : og_u X (va_AO C)) (d : decode cc pc = .ok (.anewarray idx, 3)) (hN : N < 2 ^ 20) (hc : cs + 1 ≤ mcR) (hs : sl + N ≤ msR)
    (k : ow_W X (cs + 1) (sl + N) (ow_nS S z (.inr (.object C, N, fun _ => some none)), ow_nI I z, ow_nV V z (fun _ => .null), z + 1) (pc + 3) lv (.ref z :: st)) : ow_W X cs sl (S, I, V, z) pc lv (.int (nI N) :: st) := by
  obtain ⟨p, l, e, R, s, m, args, below, meth, c, Q, D, A⟩ := X
  obtain ⟨hx, hb, hown, hts, hK, hA, hml, rfl⟩ := E
  intro H locs ls hR hD hSS hl
  have hz : H.size = z := hR.2
  have en : (nI N).toNatClampNeg = N := nI_clamp (by omega)
  refine W.anew hx hb hown (hts _ w1) (va_AO.use w2) rfl d rfl (nI_pos (by omega)) (by rw [en]; omega) hc (by rw [en]; exact hs) fun cA kA comp f1 f2 f3 f4 => ?_
  rw [en]
  generalize hH1 : H.push ({ cls := cA, slots := Array.replicate N .null, vm := .none } : Cell) = H1
  have z1 : H1.size = H.size + 1 := by rw [← hH1, Array.size_push]
  have e1 : H1[H.size]? = some (arrV cA N (fun _ => .null)) := by rw [← hH1, Array.getElem?_push_size, ← arrV_new]
  have o1 : ∀ q : Nat, q < H.size → H1[q]? = H[q]? := fun q hq => by rw [← hH1, Array.getElem?_push, if_neg (Nat.ne_of_lt hq)]
  have hAr : ArrOfT s cA (.object C) := fun N z => ⟨(fun k h => by cases h), kA, f2, comp, f3⟩
  rw [hz]
  refine k H1 locs ls (hR.new z1 o1 (fun b j hb => by rw [ow_nI_o I hb]) (fun b j hb => by rw [ow_nV_o V _ hb]) ⟨cA, ?_, hAr, kA, comp, f2, f3, f4, f1⟩) (fun q sh hq => ?_) ⟨Nat.le_trans hSS.1 (by omega), fun x h1 h2 => (o1 x (by have := hSS.1; omega)).trans (hSS.2.1 x h1 h2), hSS.2.2⟩ hl
  · have e2 : (fun _ : Nat => Value.null) = (fun j => ow_v (some none) (ow_nI I z z j) (ow_nV V z (fun _ => .null) z j)) := by
      funext j
      show _ = ow_nV V z (fun _ => .null) z j
      rw [ow_nV_s]
    rw [e2, hz] at e1
    exact e1
  · by_cases e9 : q = z
    · exact hA q (by have := hSS.1; omega)
    · exact hD q sh ((ow_nS_o S _ e9).symm.trans hq)
/-- a reference to an object of a class of the list stored into an array -/
theorem or_aastV {a v n j ci : Nat} {i : Int32} {κ κv : Nat → Option (Option Value)} {r : vw_C} (E : ow_E X own cc nL R0) (d : decode cc pc = .ok (.aastore, 1)) (hS : S a = some (.inr (.object r.1, n, κ))) (hk : κ j = some none) (hv : S v = some (.inl (ci, κv))) (hc : ow_cl[ci]? = some r) (hx : i = nI j) (hj : j < n) (hn : n < 2 ^ 31)
    (k : ow_W X cs sl (S, I, ow_u V a j (.ref v), z) (pc + 1) lv st) : ow_W X cs sl (S, I, V, z) pc lv (.ref v :: .int i :: .ref a :: st) := by
  obtain ⟨hi, hcl⟩ := ow_ix hx hj hn
  obtain ⟨p, l, e, R, s, m, args, below, meth, c, Q, D, A⟩ := X
  obtain ⟨hx0, hb, hown, hts, hK, hA, hml, hR0⟩ := E
  intro H locs ls hR hD hSS hl
  obtain ⟨cA, g1, g2, g3⟩ := hR.1 a _ hS
  obtain ⟨r', hr', cellV, v1, v2, v3, -⟩ := hR.1 v _ hv
  have hcls := (hK.1 ci r hc).2
  obtain ⟨kA, comp, k1, k2, k3, k4⟩ := g3
  have hcomp : comp = D.1 ci := Option.some.inj (k3.symm.trans hcls.1)
  subst hcomp
  obtain ⟨kC, hkC, -⟩ := hcls.2
  refine W.aast hx0 hb g1 (fun q h => by cases h) (fun h => by cases h) k1 k2 rfl hkC ⟨fun q => hi (Or.inl q), by show _ < (arrV _ _ _).slots.size; rw [arrV_size]; exact Nat.not_le.mp fun q => hi (Or.inr q)⟩ v1 (fun q h => by rw [v3] at h; cases h) (by rw [v2]; exact hkC) (by rw [v2]; exact va_assign hcls) rfl rfl d fun H1 e z1 oq => ?_
  refine k H1 _ ls (hR.wr hS z1 oq (fun _ _ _ => rfl) (fun b i hb => ow_u_a _ _ _ _ hb i) ⟨cA, ?_, g2, ⟨kA, _, k1, k2, k3, k4⟩⟩) hD (hSS.put z1 oq (hD a _ hS)) hl
  rw [e, hcl, arrV_store]
  congr 2
  funext q
  by_cases hq : q = j
  · subst hq
    show updV _ _ _ _ = ow_v (κ q) _ (ow_u V a q (.ref v) a q)
    rw [ow_u_s, hk]
    simp [updV, ow_v]
  · show updV _ _ _ _ = ow_v (κ q) _ (ow_u V a j (.ref v) a q)
    rw [ow_u_k _ _ _ _ hq]
    simp [updV, hq]
/-- Object's constructor -/
def ow_lo (own : String) (idx : Nat) : Prop := Cond.methodLink own idx Lib.objectInit ∈ ow_T ∧ Cond.instanceMethod Lib.objectInit ∈ ow_T ∧ Cond.code Lib.objectInit ⟨#[0xb1]⟩ 1 none ∈ ow_T
theorem or_oinit {a idx : Nat} (E : ow_E X own cc nL (ow_rm kR mcR msR)) (L : ow_lo own idx) (d : decode cc pc = .ok (.invokespecial idx, 3)) (hk : 1 ≤ kR) (hst : (st.map fun v => v.category).sum ≤ 8) (k : ow_W X cs sl h (pc + 3) lv st) : ow_W X cs sl h pc lv (.ref a :: st) := by
  obtain ⟨p, l, e, R, s, m, args, below, meth, c, Q, D, A⟩ := X
  obtain ⟨hx, hb, hown, hts, hK, hA, hml, rfl⟩ := E
  obtain ⟨w1, w2, w3⟩ := L
  intro H locs ls hR hD hSS hl
  exact W.objInit hx hb hown (hts _ w1) (hts _ w2) (hts _ w3) rfl hl.1 rfl d hk (by show 2 * 0 + _ + 12 ≤ 40 * kR; omega) (k H locs ls hR hD hSS hl)
variable {y : MethodName} {cy : ByteArray} {n idx k mc ms na : Nat} {Kc : Nat → Option Value → ow_H → Prop}
/-- a constructor called -/
def ow_lz (own : String) (idx : Nat) (y : MethodName) (cy : ByteArray) (n : Nat) (na : Nat) : Prop := Cond.methodLink own idx y ∈ ow_T ∧ Cond.instanceMethod y ∈ ow_T ∧ Cond.initialized y.cls ∈ ow_T ∧ Cond.code y cy n none ∈ ow_T ∧ y.name = "<init>" ∧ ow_mx y na
theorem or_xI {b : Nat} (As : List Value) (hC : ow_Cx Z y cy n none k mc ms (.ref b :: As) h Kc) (E : ow_E X own cc nL (ow_rm kR mcR msR)) (G : og_G X Z) (F : ox_F X h0 K mcR msR retR nmR) (L : ow_lz own idx y cy n na) (d : decode cc pc = .ok (.invokespecial idx, 3))
    (hn : As.length = na) (hk : k + 1 ≤ kR) (hn2 : n ≤ 20) (hm : cs + mc ≤ mcR ∧ sl + ms ≤ msR) (hst : (st.map fun v => v.category).sum ≤ 8)
    (kk : ∀ (r : Option Value) (h1 : ow_H), Kc 0 r h1 → ow_W X (cs + mc) (sl + ms) h1 (pc + 3) lv (r.toList ++ st)) (kx : ∀ (c' : Nat) (h1 : ow_H), 0 < c' → Kc c' none h1 → K c' none h1) : ow_W X cs sl h pc lv (As.reverse ++ .ref b :: st) := by
  obtain ⟨p, l, e, R, s, m, args, below, meth, c, Q, D, A⟩ := X
  obtain ⟨hx, hb, hown, hts, hK, hA, hml, rfl⟩ := E
  obtain ⟨w1, w2, w3, w4, w5, w6⟩ := L
  intro H locs ls hR hD hSS hl
  have cw := callB_of (R := ow_rm kR mcR msR) (rm := ow_rm k mc ms) (mc := mc) (ms := ms) na hts (ow_good_code w4) rfl rfl rfl (hts _ w3) (hts _ w1) w6 ⟨hk, by show 8 + (n + 11) + 40 * k ≤ 40 * kR; omega⟩
  refine ox_after F hR hD hA hSS hl hm (vx_runI (As := As) (rest := st) ⟨hx, hb, rfl, hown, hts⟩ (hC l D G.2) ⟨cw, w5, hts _ w2⟩ ⟨ox_Pc_blind Z D _ h, fun U hU hW => ⟨⟨rfl, by rw [hU]; exact hR.moved hW.alike, va_K.moved hW.alike hK⟩, ox_gl G.1 hR hD hA hSS hU hW⟩⟩ rfl hn hl.1 rfl (lv_room hst) d hm) kk kx
/-- a private constructor of a nest mate called -/
def ow_ln (y : MethodName) (cy : ByteArray) (n : Nat) (na : Nat) : Prop := Cond.instanceMethod y ∈ ow_T ∧ Cond.initialized y.cls ∈ ow_T ∧ Cond.code y cy n none ∈ ow_T ∧ y.name = "<init>" ∧ ow_mx y na
theorem or_xIN {b : Nat} (As : List Value) (hC : ow_Cx Z y cy n none k mc ms (.ref b :: As) h Kc) (E : ow_E X own cc nL (ow_rm kR mcR msR)) (G : og_G X Z) (F : ox_F X h0 K mcR msR retR nmR) (W9 : og_u X (va_Nw (.methodLinkNest own idx y "LowWaterAuction"))) (L : ow_ln y cy n na) (d : decode cc pc = .ok (.invokespecial idx, 3))
    (hn : As.length = na) (hk : k + 1 ≤ kR) (hn2 : n ≤ 20) (hm : cs + mc ≤ mcR ∧ sl + ms ≤ msR) (hst : (st.map fun v => v.category).sum ≤ 8)
    (kk : ∀ (r : Option Value) (h1 : ow_H), Kc 0 r h1 → ow_W X (cs + mc) (sl + ms) h1 (pc + 3) lv (r.toList ++ st)) (kx : ∀ (c' : Nat) (h1 : ow_H), 0 < c' → Kc c' none h1 → K c' none h1) : ow_W X cs sl h pc lv (As.reverse ++ .ref b :: st) := by
  obtain ⟨p, l, e, R, s, m, args, below, meth, c, Q, D, A⟩ := X
  obtain ⟨hx, hb, hown, hts, hK, hA, hml, rfl⟩ := E
  obtain ⟨w2, w3, w4, w5, w6⟩ := L
  intro H locs ls hR hD hSS hl
  have cw := va_cnB (R := ow_rm kR mcR msR) (rm := ow_rm k mc ms) (mc := mc) (ms := ms) na hts (ow_good_code w4) rfl rfl rfl W9 (hts _ w3) w6 ⟨hk, by show 8 + (n + 11) + 40 * k ≤ 40 * kR; omega⟩
  refine ox_after F hR hD hA hSS hl hm (vx_runIN (As := As) (rest := st) ⟨hx, hb, rfl, hown, hts⟩ (hC l D G.2) ⟨cw, w5, hts _ w2⟩ ⟨ox_Pc_blind Z D _ h, fun U hU hW => ⟨⟨rfl, by rw [hU]; exact hR.moved hW.alike, va_K.moved hW.alike hK⟩, ox_gl G.1 hR hD hA hSS hU hW⟩⟩ rfl hn hl.1 rfl (lv_room hst) d hm) kk kx
end RC
