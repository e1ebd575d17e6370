/-! OWN FRAME: the heap as a map from addresses to shapes, with one memory of ints and one of other values; a walk's place as (cells, slots, heap, pc, locals, stack) -/
/-- a cell's shape: an object (number of its class, its places) or an array (element type, length, its places); a place holds an int of the memory (none), another value of the memory (some none), or always the same value (some (some v)) -/
abbrev ow_Sh : Type := (Nat × (Nat → Option (Option Value))) ⊕ (FieldType × Nat × (Nat → Option (Option Value)))
/-- shapes, ints, other values, the heap's size -/
abbrev ow_H : Type := (Nat → Option ow_Sh) × (Nat → Nat → Int32) × (Nat → Nat → Value) × Nat
def ow_v (κ : Option (Option Value)) (i : Int32) (w : Value) : Value := match κ with
  | none => .int i
  | some none => w
  | some (some v) => v
def ow_u {α : Type} (f : Nat → Nat → α) (a k : Nat) (x : α) : Nat → Nat → α := fun b j => if b = a then (if j = k then x else f b j) else f b j
theorem ow_u_s {α : Type} (f : Nat → Nat → α) (a k : Nat) (x : α) : ow_u f a k x a k = x := by simp [ow_u]
theorem ow_u_k {α : Type} (f : Nat → Nat → α) (a k : Nat) (x : α) {j : Nat} (h : j ≠ k) (b : Nat) : ow_u f a k x b j = f b j := by simp [ow_u, h]
theorem ow_u_a {α : Type} (f : Nat → Nat → α) (a k : Nat) (x : α) {b : Nat} (h : b ≠ a) (j : Nat) : ow_u f a k x b j = f b j := by simp [ow_u, h]
/-- a heap with an int written -/
def ow_pI (h : ow_H) (a k : Nat) (x : Int32) : ow_H := (h.1, ow_u h.2.1 a k x, h.2.2.1, h.2.2.2)
def ow_pV (h : ow_H) (a k : Nat) (x : Value) : ow_H := (h.1, h.2.1, ow_u h.2.2.1 a k x, h.2.2.2)
def ow_cl : List vw_C := [(RX8, TX8, 3), (RX1, TX1, 10), (RX2, TX2, 5), (RX3, TX3, 5), (RX4, TX4, 3), (RX5, TX5, 6), (RX6, TX6, 17), (RX7, TX7, 7), (RX8, TX8, 3), (RX8, TX8, 3), (RX10, TX10, 8), (RJ0, TJ0, 4), (RJ4, TJ4, 4)]
/-- private methods of a class above, of an object made: proved at the start from words that calls don't keep -/
def ow_T2 : List Cond := [.selects "java/lang/StringBuilder" ⟨"java/lang/AbstractStringBuilder", "newCapacity", "(I)I"⟩ ⟨"java/lang/AbstractStringBuilder", "newCapacity", "(I)I"⟩, .selects "java/lang/StringBuilder" ⟨"java/lang/AbstractStringBuilder", "ensureCapacityInternal", "(I)V"⟩ ⟨"java/lang/AbstractStringBuilder", "ensureCapacityInternal", "(I)V"⟩, .selects "java/lang/StringBuilder" ⟨"java/lang/AbstractStringBuilder", "putStringAt", "(ILjava/lang/String;)V"⟩ ⟨"java/lang/AbstractStringBuilder", "putStringAt", "(ILjava/lang/String;)V"⟩, .selects "java/lang/StringBuilder" ⟨"java/lang/AbstractStringBuilder", "inflateIfNeededFor", "(Ljava/lang/String;)V"⟩ ⟨"java/lang/AbstractStringBuilder", "inflateIfNeededFor", "(Ljava/lang/String;)V"⟩]
def ow_T : List Cond := ow_T2 ++ lw_tbl.filter goodWord
theorem ow_T_2 {w : Cond} (i : Nat) (h : ow_T2[i]? = some w) : w ∈ ow_T := List.mem_append_left _ (List.mem_of_getElem? h)
theorem ow_T_in {w : Cond} (i : Nat) (h : tables_1[i]? = some w) (hg : goodWord w = true) : w ∈ ow_T :=
  List.mem_append_right _ (List.mem_filter.mpr ⟨List.mem_append_right _ (List.mem_of_getElem? h), hg⟩)
theorem ow_T_sel {w : Cond} (i : Nat) (h : (k2_sels lw_privs)[i]? = some w) (hg : goodWord w = true) : w ∈ ow_T :=
  List.mem_append_right _ (List.mem_filter.mpr ⟨List.mem_append_left _ (List.mem_of_getElem? h), hg⟩)
theorem ow_T_good : GoodIn ow_T ow_T := fun w h => ⟨h, by
  rcases List.mem_append.mp h with h | h
  · exact good_of_word (List.all_eq_true.mp (show ow_T2.all goodWord = true by decide) w h)
  · exact good_of_word (List.mem_filter.mp h).2⟩
/-- several words by their places -/
theorem ow_T_ins {ws : List Cond} (ps : List Nat) (hp : ws = ps.filterMap (fun i => tables_1[i]?)) (hg : ws.all goodWord = true) : ∀ w ∈ ws, w ∈ ow_T := by
  intro w hw
  have h1 := List.all_eq_true.mp hg w hw
  rw [hp] at hw
  obtain ⟨i, -, hi⟩ := List.mem_filterMap.mp hw
  exact ow_T_in i hi h1
/-- what the rows ask of a class of the list -/
def ow_ok (r : vw_C) : Prop := (∀ w ∈ u_ws r.1 r.2.1 r.2.2, w ∈ ow_T) ∧ (∃ ty : Nat → FieldType, ∀ k, k < r.2.2 → parseFieldDescriptor (r.2.1 k).2.2.1 = some (ty k)) ∧ (∀ a, a < r.2.2 → ∀ b, b < r.2.2 → a ≠ b → (r.2.1 a).2.1 ≠ (r.2.1 b).2.1)
theorem ow_ok1 : ow_ok (RX1, TX1, 10) := ⟨ow_T_ins [133, 135, 137, 139, 141, 143, 145, 147, 149, 151] (by decide +kernel) (by decide +kernel), ⟨tyX1, tyX1_ok⟩, nmX1⟩
theorem ow_ok2 : ow_ok (RX2, TX2, 5) := ⟨ow_T_ins [86, 88, 90, 92, 94] (by decide +kernel) (by decide +kernel), ⟨tyX2, tyX2_ok⟩, nmX2⟩
theorem ow_ok3 : ow_ok (RX3, TX3, 5) := ⟨ow_T_ins [294, 296, 298, 300, 302] (by decide +kernel) (by decide +kernel), ⟨tyX3, tyX3_ok⟩, nmX3⟩
theorem ow_ok4 : ow_ok (RX4, TX4, 3) := ⟨ow_T_ins [237, 239, 241] (by decide +kernel) (by decide +kernel), ⟨tyX4, tyX4_ok⟩, nmX4⟩
theorem ow_ok5 : ow_ok (RX5, TX5, 6) := ⟨ow_T_ins [266, 268, 270, 272, 274, 276] (by decide +kernel) (by decide +kernel), ⟨tyX5, tyX5_ok⟩, nmX5⟩
theorem ow_ok6 : ow_ok (RX6, TX6, 17) := ⟨ow_T_ins [190, 192, 194, 196, 198, 200, 202, 204, 206, 208, 210, 212, 214, 216, 218, 220, 222] (by decide +kernel) (by decide +kernel), ⟨tyX6, tyX6_ok⟩, nmX6⟩
theorem ow_ok7 : ow_ok (RX7, TX7, 7) := ⟨ow_T_ins [312, 314, 316, 318, 320, 322, 324] (by decide +kernel) (by decide +kernel), ⟨tyX7, tyX7_ok⟩, nmX7⟩
theorem ow_ok8 : ow_ok (RX8, TX8, 3) := ⟨ow_T_ins [57, 59, 61] (by decide +kernel) (by decide +kernel), ⟨tyX8, tyX8_ok⟩, nmX8⟩
theorem ow_ok10 : ow_ok (RX10, TX10, 8) := ⟨ow_T_ins [542, 544, 546, 548, 550, 552, 554, 556] (by decide +kernel) (by decide +kernel), ⟨tyX10, tyX10_ok⟩, nmX10⟩
theorem ow_ok12 : ow_ok (RJ4, TJ4, 4) := ⟨ow_T_ins [349, 351, 353, 355] (by decide +kernel) (by decide +kernel), ⟨tyJ4, tyJ4_ok⟩, nmJ4⟩
theorem ow_ok11 : ow_ok (RJ0, TJ0, 4) := ⟨ow_T_ins [752, 754, 756, 758] (by decide +kernel) (by decide +kernel), ⟨tyJ0, tyJ0_ok⟩, nmJ0⟩
def ow_at (D : va_G) (U : State) (h : ow_H) (H : Heap) (a : Nat) (sh : ow_Sh) : Prop := match sh with
  | .inl o => ∃ r : vw_C, ow_cl[o.1]? = some r ∧ t_OB a (D.1 o.1) r.2.2 (D.2 o.1) H (fun k => ow_v (o.2 k) (h.2.1 a k) (h.2.2.1 a k))
  | .inr x => ∃ cA : ClassId, H[a]? = some (arrV cA x.2.1 (fun j => ow_v (x.2.2 j) (h.2.1 a j) (h.2.2.1 a j))) ∧ ArrOfT U cA x.1 ∧ va_RA U cA x.1
def ow_R (D : va_G) (U : State) (h : ow_H) (H : Heap) : Prop := (∀ (a : Nat) (sh : ow_Sh), h.1 a = some sh → ow_at D U h H a sh) ∧ H.size = h.2.2.2
theorem ow_R.moved {D : va_G} {u U : State} {h : ow_H} {H : Heap} (hvm : u.vm.Alike U.vm) (hR : ow_R D u h H) : ow_R D U h H := by
  refine ⟨fun a sh hs => ?_, hR.2⟩
  have h1 := hR.1 a sh hs
  cases sh with
  | inl o => exact h1
  | inr x =>
    obtain ⟨cA, g1, g2, g3⟩ := h1
    exact ⟨cA, g1, arrOfT_moved hvm g2, g3.moved hvm⟩
/-- a cell that was written; all others as they were -/
theorem ow_R.wr {D : va_G} {U : State} {h : ow_H} {H H1 : Heap} (hR : ow_R D U h H) {I : Nat → Nat → Int32} {V : Nat → Nat → Value} {a : Nat} {sh : ow_Sh} (hS : h.1 a = some sh) (z : H1.size = H.size) (oq : ∀ q : Nat, q ≠ a → H1[q]? = H[q]?)
    (hI : ∀ b j, b ≠ a → I b j = h.2.1 b j) (hV : ∀ b j, b ≠ a → V b j = h.2.2.1 b j) (hat : ow_at D U (h.1, I, V, h.2.2.2) H1 a sh) : ow_R D U (h.1, I, V, h.2.2.2) H1 := by
  refine ⟨fun b s2 hs => ?_, z.trans hR.2⟩
  by_cases e : b = a
  · subst e
    cases hS.symm.trans hs
    exact hat
  · have h1 := hR.1 b s2 hs
    cases s2 with
    | inl o =>
      obtain ⟨r, g1, g2⟩ := h1
      exact ⟨r, g1, (g2.kept (oq b e)).to (fun k _ => by show ow_v _ _ _ = ow_v _ (I b k) (V b k); rw [hI b k e, hV b k e])⟩
    | inr x =>
      obtain ⟨cA, g1, g2, g3⟩ := h1
      refine ⟨cA, ?_, g2, g3⟩
      have e2 : (fun j => ow_v (x.2.2 j) (h.2.1 b j) (h.2.2.1 b j)) = (fun j => ow_v (x.2.2 j) (I b j) (V b j)) := by
        funext j
        rw [hI b j e, hV b j e]
      show H1[b]? = some (arrV cA x.2.1 (fun j => ow_v (x.2.2 j) (I b j) (V b j)))
      rw [oq b e, g1, e2]
abbrev ow_X : Type := Program × Launch × Env × Room × State × MethodId × Array Value × List Frame × Method × Code × (State → Prop) × va_G × (Nat → Prop)
/-- the walk stands at pc, over this heap, these locals (as far as listed), this stack, with so many cells and slots made -/
def ow_W (X : ow_X) (cs sl : Nat) (h : ow_H) (pc : Nat) (lv : List (Nat × Value)) (st : List Value) : Prop := match X with
  | (p, l, e, R, s, m, args, below, meth, c, Q, D, A) => ∀ (H : Heap) (locs : List Loc) (ls : Array Slot), ow_R D s h H → (∀ (q : Nat) (sh : ow_Sh), h.1 q = some sh → A q) → va_S A s.heap H locs → lv_has ls c.maxLocals lv → W p l e R s m args below meth c H locs cs sl Q (F0 m pc ls st)
/-- what holds all along a walk: the machine, the code, the class, the tables' words, the classes of the list, the room -/
def ow_E (X : ow_X) (own : String) (cc : ByteArray) (nL : Nat) (R0 : Room) : Prop := match X with
  | (p, _, _, R, s, m, args, _, _, c, _, D, A) => p.tables.exec = Jvm.exec ∧ c.code = cc ∧ s.vm.findClass own = some m.cls ∧ (∀ w ∈ ow_T, w.before args s = true) ∧ va_K D ow_cl [] s ∧ (∀ q, s.heap.size ≤ q → A q) ∧ c.maxLocals = nL ∧ R = R0
def ow_Dm (h : ow_H) : Nat → Prop := fun q => (∃ sh, h.1 q = some sh) ∨ h.2.2.2 ≤ q
/-- a contract's start and end -/
def ow_Pc (D : va_G) (as : List Value) (h : ow_H) : Array Value → State → Prop := fun v U => v = as.toArray ∧ ow_R D U h U.heap ∧ va_K D ow_cl [] U
def ow_Qc (D : va_G) (K : Option Value → ow_H → Prop) (h : ow_H) : Array Value → State → Outcome → State → Prop := fun _ st o t => (∃ (r : Option Value) (h1 : ow_H), o = .returned r ∧ K r h1 ∧ ow_R D t h1 t.heap ∧ (∀ (q : Nat) (sh : ow_Sh), h1.1 q = some sh → ow_Dm h q)) ∧ va_F (ow_Dm h) st t
/-- how the walk ends -/
def ow_F (X : ow_X) (h0 : ow_H) (K : Option Value → ow_H → Prop) (mc ms : Nat) (ret : Option FieldType) (nm : String) : Prop := match X with
  | (_, _, _, _, s, _, args, below, meth, _, Q, D, A) => Q = MQ below (ow_Qc D K h0) args s mc ms (ow_Dm h0) ∧ A = ow_Dm h0 ∧ meth.sig.returnType = ret ∧ meth.locks = false ∧ meth.name = nm
def ow_rm (k mc ms : Nat) : Room := { frames := k, cells := mc, slots := ms, locals := 40 * k }
/-- A METHOD'S CONTRACT: from every heap h and arguments with P, it returns, with K of them, of its answer, and of the heap behind it; k: frames beneath; mc, ms: what it makes -/
def ow_C (y : MethodName) (cy : ByteArray) (n : Nat) (ret : Option FieldType) (k mc ms : Nat) (P : List Value → ow_H → Prop) (K : List Value → ow_H → Option Value → ow_H → Prop) : Prop :=
  ∀ (l : Launch) (D : va_G) (as : List Value) (h : ow_H), P as h → Met l y (Cond.code y cy n ret :: ow_T) (ow_rm k mc ms) (ow_Pc D as h) (ow_Qc D (K as h) h) mc ms (ow_Dm h)
theorem ow_C.of {y : MethodName} {cy : ByteArray} {n : Nat} {ret : Option FieldType} {k mc ms : Nat} {P : List Value → ow_H → Prop} {K : List Value → ow_H → Option Value → ow_H → Prop} (hy : plainName y.cls = true)
    (body : ∀ (X : ow_X) (as : List Value) (h : ow_H), P as h → ow_E X y.cls cy n (ow_rm k mc ms) → ow_F X h (K as h) mc ms ret y.name → (lg_sl as).length ≤ n ∧ ow_W X 0 0 h 0 (lv_args 0 as) []) : ow_C y cy n ret k mc ms P K := by
  intro l D as h hP
  refine Met.ofW (cc := cy) (maxL := n) (ret := ret) hy rfl ?_
  intro p e s m args below meth c s₁ B hml hv
  obtain ⟨rfl, hR, hK⟩ := hv
  have hx := B.exec
  have hb := B.bytes
  have hr := B.returns
  have hts := atoms_spec (ws := Cond.code y cy n ret :: ow_T) B.pre
  have hown : s.vm.findClass y.cls = some m.cls := findClass_of_methodNamed B.named
  have hlocks := B.notSynchronized
  have hnm : meth.name = y.name := (name_of_methodNamed B.named B.method).1
  obtain ⟨hlen, hw⟩ := body (p, l, e, ow_rm k mc ms, s, m, as.toArray, below, meth, c, MQ below (ow_Qc D (K as h) h) as.toArray s mc ms (ow_Dm h), D, ow_Dm h) as h hP ⟨hx, hb, hown, fun w hw => hts w (List.mem_cons_of_mem _ hw), hK, fun q hq => Or.inr (by rw [← hR.2]; exact hq), hml, rfl⟩ ⟨rfl, rfl, hr, hlocks, hnm⟩
  have hl := lv_entry as (n := n) hlen
  rw [lg_entry_eq]
  exact hw s.heap [] _ hR (fun q sh hq => Or.inl ⟨sh, hq⟩) va_S.rf (by rw [hml]; exact hl)
/-- the locals: the listed value of a place; a value stored -/
def ow_g (lv : List (Nat × Value)) (i : Nat) : Option Value := match lv with
  | [] => none
  | q :: r => if q.1 = i then some q.2 else ow_g r i
def ow_s (lv : List (Nat × Value)) (i : Nat) (v : Value) : List (Nat × Value) := (i, v) :: lv.filter (fun q => !(q.1 == i) && !(q.1 + 1 == i && q.2.category == 2))
def ow_s2 (lv : List (Nat × Value)) (i : Nat) (v : Value) : List (Nat × Value) := (i, v) :: lv.filter (fun q => !(q.1 == i) && (!(q.1 == i + 1) && !(q.1 + 1 == i && q.2.category == 2)))
theorem ow_g_in {i : Nat} {v : Value} : ∀ {lv : List (Nat × Value)}, ow_g lv i = some v → (i, v) ∈ lv
  | [], h => by simp [ow_g] at h
  | q :: r, h => by
    unfold ow_g at h
    by_cases e : q.1 = i
    · rw [if_pos e] at h
      cases h
      subst e
      exact List.mem_cons_self
    · rw [if_neg e] at h
      exact List.mem_cons_of_mem _ (ow_g_in h)
section OW
variable {X : ow_X} {cs sl : Nat} {h : ow_H} {pc : Nat} {lv : List (Nat × Value)} {st : List Value} {own : String} {cc : ByteArray} {nL : Nat} {R0 : Room}
/-- less of the locals is asked -/
theorem or_lv (lv' : List (Nat × Value)) (hs : lv'.map (fun q => ow_g lv q.1) = lv'.map (fun q => some q.2)) (k : ow_W X cs sl h pc lv' st) : ow_W X cs sl h pc lv st := by
  obtain ⟨p, l, e, R, s, m, args, below, meth, c, Q, D, A⟩ := X
  intro H locs ls hR hD hS hl
  refine k H locs ls hR hD hS ⟨hl.1, hl.2.1, fun q hq => hl.2.2 q ?_⟩
  have h1 : ∀ (l1 : List (Nat × Value)), l1.map (fun q => ow_g lv q.1) = l1.map (fun q => some q.2) → ∀ q ∈ l1, ow_g lv q.1 = some q.2 := by
    intro l1
    induction l1 with
    | nil => intro _ q hq; cases hq
    | cons a r ih =>
      intro h q hq
      simp only [List.map_cons, List.cons.injEq] at h
      rcases List.mem_cons.mp hq with rfl | hq
      · exact h.1
      · exact ih h.2 q hq
  exact ow_g_in (h1 lv' hs q hq)
/-- a field's row: its place in the class's table -/
def ow_fl (own : String) (idx ci k : Nat) : Prop := ∃ r : vw_C, ow_cl[ci]? = some r ∧ k < r.2.2 ∧ Cond.fieldLink own idx (r.2.1 k).1 (r.2.1 k).2.1 (r.2.1 k).2.2.1 ∈ ow_T ∧ ow_ok r
theorem or_get {idx ci k a : Nat} {κ : Nat → Option (Option Value)} (E : ow_E X own cc nL R0) (f : ow_fl own idx ci k) (d : decode cc pc = .ok (.getfield idx, 3)) (hS : h.1 a = some (.inl (ci, κ)))
    (kk : ow_W X cs sl h (pc + 3) lv (ow_v (κ k) (h.2.1 a k) (h.2.2.1 a k) :: st)) : ow_W X cs sl h pc lv (.ref a :: st) := by
  obtain ⟨p, l, e, R, s, m, args, below, meth, c, Q, D, A⟩ := X
  obtain ⟨hx, hb, hown, hts, hK, -⟩ := E
  obtain ⟨r, hc, hkN, hlw, hin, -⟩ := f
  intro H locs ls hR hD hSS hl
  obtain ⟨r', h1, cell, q1, q2, q3, q4⟩ := hR.1 a _ hS
  cases hc.symm.trans h1
  obtain ⟨hSl, hfc, kC, hkC, hkind⟩ := hK.1 ci _ hc
  obtain ⟨cf, kf, fi, f, hi, hsl⟩ := hSl k hkN
  refine W.getf hx hb hown (hts _ hlw) hi (u_facts hfc hkC (u_lays hts hin hkN) hi).1 q1 (by rw [q3]; exact fun h => by cases h) (v := ow_v (κ k) (h.2.1 a k) (h.2.2.1 a k)) ?_ rfl rfl d (kk H locs ls hR hD hSS hl)
  rw [hsl, q4 k hkN]
theorem or_getI {idx ci k a : Nat} {κ : Nat → Option (Option Value)} (E : ow_E X own cc nL R0) (f : ow_fl own idx ci k) (d : decode cc pc = .ok (.getfield idx, 3)) (hS : h.1 a = some (.inl (ci, κ))) (hk : κ k = none)
    (kk : ow_W X cs sl h (pc + 3) lv (.int (h.2.1 a k) :: st)) : ow_W X cs sl h pc lv (.ref a :: st) := or_get E f d hS (by rw [hk]; exact kk)
theorem or_getC {idx ci k a : Nat} {κ : Nat → Option (Option Value)} {v : Value} (E : ow_E X own cc nL R0) (f : ow_fl own idx ci k) (d : decode cc pc = .ok (.getfield idx, 3)) (hS : h.1 a = some (.inl (ci, κ))) (hk : κ k = some (some v))
    (kk : ow_W X cs sl h (pc + 3) lv (v :: st)) : ow_W X cs sl h pc lv (.ref a :: st) := or_get E f d hS (by rw [hk]; exact kk)
theorem or_getV {idx ci k a : Nat} {κ : Nat → Option (Option Value)} (E : ow_E X own cc nL R0) (f : ow_fl own idx ci k) (d : decode cc pc = .ok (.getfield idx, 3)) (hS : h.1 a = some (.inl (ci, κ))) (hk : κ k = some none)
    (kk : ow_W X cs sl h (pc + 3) lv (h.2.2.1 a k :: st)) : ow_W X cs sl h pc lv (.ref a :: st) := or_get E f d hS (by rw [hk]; exact kk)
theorem or_putI {idx ci k a : Nat} {κ : Nat → Option (Option Value)} {x : Int32} (E : ow_E X own cc nL R0) (f : ow_fl own idx ci k) (fw : ∃ r : vw_C, ow_cl[ci]? = some r ∧ (r.2.1 k).2.2.2 = false ∧ parseFieldDescriptor (r.2.1 k).2.2.1 = some .int) (d : decode cc pc = .ok (.putfield idx, 3)) (hS : h.1 a = some (.inl (ci, κ))) (hk : κ k = none)
    (kk : ow_W X cs sl (ow_pI h a k x) (pc + 3) lv st) : ow_W X cs sl h pc lv (.int x :: .ref a :: st) := by
  obtain ⟨p, l, e, R, s, m, args, below, meth, c, Q, D, A⟩ := X
  obtain ⟨hx, hb, hown, hts, hK, -⟩ := E
  obtain ⟨r, hc, hkN, hlw, hin, ⟨ty, hty⟩, hnm⟩ := f
  obtain ⟨r2, hc2, hfin, hd⟩ := fw
  cases hc.symm.trans hc2
  intro H locs ls hR hD hSS hl
  obtain ⟨r', h1, cell, q1, q2, q3, q4⟩ := hR.1 a _ hS
  cases hc.symm.trans h1
  have hap := va_apart (own := own) hts hin ty hty hnm hK (ci := ci) hc
  obtain ⟨hSl, hfc, kC, hkC, hkind⟩ := hK.1 ci _ hc
  obtain ⟨cf, kf, fi, f, hi, hsl⟩ := hSl k hkN
  have hlay := hts _ (hin _ (u_in_lay hkN))
  unfold u_lay at hlay
  rw [if_neg (by rw [hfin]; decide)] at hlay
  have hst := (u_facts hfc hkC (u_lays hts hin hkN) hi).1
  have h6 := u_store (v := .int x) hfc hkC hkind hlay hi hd rfl rfl
  refine W.putK hx hb (f := f) ⟨hown, hts _ hlw, ⟨_, _, _, hi⟩, hst⟩ (by rw [q2]; exact h6) q1 q3 (by rw [hsl]; exact k2_hasslot (q4 k hkN)) rfl rfl d fun H1 e1 e2 e3 => ?_
  rw [hsl] at e1 ⊢
  refine kk H1 _ ls (hR.wr hS e2 e3 (fun b j hb => ow_u_a _ _ _ _ hb j) (fun _ _ _ => rfl) ⟨_, hc, ?_⟩) hD (hSS.put e2 e3 (hD a _ hS)) hl
  refine t_OB.to (V := updV (fun k => ow_v (κ k) (h.2.1 a k) (h.2.2.1 a k)) k (.int x)) ⟨_, e1, q2, q3, t_set q4 hap hkN (.int x)⟩ (fun j _ => ?_)
  by_cases hj : j = k
  · subst hj
    show updV _ _ _ _ = ow_v (κ j) (ow_u h.2.1 a j x a j) _
    rw [ow_u_s, hk]
    simp [updV, ow_v]
  · show updV _ _ _ _ = ow_v (κ j) (ow_u h.2.1 a k x a j) _
    rw [ow_u_k _ _ _ _ hj]
    simp [updV, hj]
/-- an index within its row -/
theorem ow_ix {x : Int32} {j n : Nat} (hx : x = nI j) (hj : j < n) (hn : n < 2 ^ 31) : ¬ (x < 0 ∨ n ≤ x.toNatClampNeg) ∧ x.toNatClampNeg = j := by
  subst hx
  exact ⟨vp_in_nI hj hn, nI_clamp (by omega)⟩
theorem or_iconst {n : Int} {v : Int32} (E : ow_E X own cc nL R0) (hv : Int32.ofInt n = v) (d : decode cc pc = .ok (.iconst n, 1)) (k : ow_W X cs sl h (pc + 1) lv (.int v :: st)) : ow_W X cs sl h pc lv (st) := by
  obtain ⟨p, l, e, R, s, m, args, below, meth, c, Q, D, A⟩ := X
  obtain ⟨hx, hb, hown, hts, hK, hA, hml, hR0⟩ := E
  intro H locs ls hR hD hSS hl
  exact lv_iconst hx hb d hv (k H locs ls hR hD hSS hl)
theorem or_bipush {n : Int} {v : Int32} (E : ow_E X own cc nL R0) (hv : (Int8.ofInt n).toInt32 = v) (d : decode cc pc = .ok (.bipush n, 2)) (k : ow_W X cs sl h (pc + 2) lv (.int v :: st)) : ow_W X cs sl h pc lv (st) := by
  obtain ⟨p, l, e, R, s, m, args, below, meth, c, Q, D, A⟩ := X
  obtain ⟨hx, hb, hown, hts, hK, hA, hml, hR0⟩ := E
  intro H locs ls hR hD hSS hl
  exact lv_bipush hx hb d hv (k H locs ls hR hD hSS hl)
theorem or_sipush {n : Int} {v : Int32} (E : ow_E X own cc nL R0) (hv : (Int16.ofInt n).toInt32 = v) (d : decode cc pc = .ok (.sipush n, 3)) (k : ow_W X cs sl h (pc + 3) lv (.int v :: st)) : ow_W X cs sl h pc lv (st) := by
  obtain ⟨p, l, e, R, s, m, args, below, meth, c, Q, D, A⟩ := X
  obtain ⟨hx, hb, hown, hts, hK, hA, hml, hR0⟩ := E
  intro H locs ls hR hD hSS hl
  exact lv_sipush hx hb d hv (k H locs ls hR hD hSS hl)
theorem or_iload_n {j : Fin 4} {x : Int32} (E : ow_E X own cc nL R0) (hg : ow_g lv (j : Nat) = some (.int x)) (d : decode cc pc = .ok (.iload_n j, 1)) (k : ow_W X cs sl h (pc + 1) lv (.int x :: st)) : ow_W X cs sl h pc lv (st) := by
  obtain ⟨p, l, e, R, s, m, args, below, meth, c, Q, D, A⟩ := X
  obtain ⟨hx, hb, hown, hts, hK, hA, hml, hR0⟩ := E
  intro H locs ls hR hD hSS hl
  exact lv_iload_n hx hb d rfl (hl.2.2 _ (ow_g_in hg)) (k H locs ls hR hD hSS hl)
theorem or_iload {j : Nat} {x : Int32} (E : ow_E X own cc nL R0) (hg : ow_g lv j = some (.int x)) (d : decode cc pc = .ok (.iload j, 2)) (k : ow_W X cs sl h (pc + 2) lv (.int x :: st)) : ow_W X cs sl h pc lv (st) := by
  obtain ⟨p, l, e, R, s, m, args, below, meth, c, Q, D, A⟩ := X
  obtain ⟨hx, hb, hown, hts, hK, hA, hml, hR0⟩ := E
  intro H locs ls hR hD hSS hl
  exact lv_iload hx hb d (hl.2.2 _ (ow_g_in hg)) (k H locs ls hR hD hSS hl)
theorem or_aload_n {j : Fin 4} {x : Nat} (E : ow_E X own cc nL R0) (hg : ow_g lv (j : Nat) = some (.ref x)) (d : decode cc pc = .ok (.aload_n j, 1)) (k : ow_W X cs sl h (pc + 1) lv (.ref x :: st)) : ow_W X cs sl h pc lv (st) := by
  obtain ⟨p, l, e, R, s, m, args, below, meth, c, Q, D, A⟩ := X
  obtain ⟨hx, hb, hown, hts, hK, hA, hml, hR0⟩ := E
  intro H locs ls hR hD hSS hl
  exact lv_aload_n hx hb d rfl (hl.2.2 _ (ow_g_in hg)) (k H locs ls hR hD hSS hl)
theorem or_aload {j : Nat} {x : Nat} (E : ow_E X own cc nL R0) (hg : ow_g lv j = some (.ref x)) (d : decode cc pc = .ok (.aload j, 2)) (k : ow_W X cs sl h (pc + 2) lv (.ref x :: st)) : ow_W X cs sl h pc lv (st) := by
  obtain ⟨p, l, e, R, s, m, args, below, meth, c, Q, D, A⟩ := X
  obtain ⟨hx, hb, hown, hts, hK, hA, hml, hR0⟩ := E
  intro H locs ls hR hD hSS hl
  exact lv_aload hx hb d (hl.2.2 _ (ow_g_in hg)) (k H locs ls hR hD hSS hl)
theorem or_dload_n {j : Fin 4} {x : UInt64} (E : ow_E X own cc nL R0) (hg : ow_g lv (j : Nat) = some (.double x)) (d : decode cc pc = .ok (.dload_n j, 1)) (k : ow_W X cs sl h (pc + 1) lv (.double x :: st)) : ow_W X cs sl h pc lv (st) := by
  obtain ⟨p, l, e, R, s, m, args, below, meth, c, Q, D, A⟩ := X
  obtain ⟨hx, hb, hown, hts, hK, hA, hml, hR0⟩ := E
  intro H locs ls hR hD hSS hl
  exact lv_dload_n hx hb d rfl (hl.2.2 _ (ow_g_in hg)) (k H locs ls hR hD hSS hl)
theorem or_dload {j : Nat} {x : UInt64} (E : ow_E X own cc nL R0) (hg : ow_g lv j = some (.double x)) (d : decode cc pc = .ok (.dload j, 2)) (k : ow_W X cs sl h (pc + 2) lv (.double x :: st)) : ow_W X cs sl h pc lv (st) := by
  obtain ⟨p, l, e, R, s, m, args, below, meth, c, Q, D, A⟩ := X
  obtain ⟨hx, hb, hown, hts, hK, hA, hml, hR0⟩ := E
  intro H locs ls hR hD hSS hl
  exact lv_dload hx hb d (hl.2.2 _ (ow_g_in hg)) (k H locs ls hR hD hSS hl)
theorem or_fload_n {j : Fin 4} {x : UInt32} (E : ow_E X own cc nL R0) (hg : ow_g lv (j : Nat) = some (.float x)) (d : decode cc pc = .ok (.fload_n j, 1)) (k : ow_W X cs sl h (pc + 1) lv (.float x :: st)) : ow_W X cs sl h pc lv (st) := by
  obtain ⟨p, l, e, R, s, m, args, below, meth, c, Q, D, A⟩ := X
  obtain ⟨hx, hb, hown, hts, hK, hA, hml, hR0⟩ := E
  intro H locs ls hR hD hSS hl
  exact lv_fload_n hx hb d rfl (hl.2.2 _ (ow_g_in hg)) (k H locs ls hR hD hSS hl)
theorem or_fload {j : Nat} {x : UInt32} (E : ow_E X own cc nL R0) (hg : ow_g lv j = some (.float x)) (d : decode cc pc = .ok (.fload j, 2)) (k : ow_W X cs sl h (pc + 2) lv (.float x :: st)) : ow_W X cs sl h pc lv (st) := by
  obtain ⟨p, l, e, R, s, m, args, below, meth, c, Q, D, A⟩ := X
  obtain ⟨hx, hb, hown, hts, hK, hA, hml, hR0⟩ := E
  intro H locs ls hR hD hSS hl
  exact lv_fload hx hb d (hl.2.2 _ (ow_g_in hg)) (k H locs ls hR hD hSS hl)
theorem or_lload_n {j : Fin 4} {x : Int64} (E : ow_E X own cc nL R0) (hg : ow_g lv (j : Nat) = some (.long x)) (d : decode cc pc = .ok (.lload_n j, 1)) (k : ow_W X cs sl h (pc + 1) lv (.long x :: st)) : ow_W X cs sl h pc lv (st) := by
  obtain ⟨p, l, e, R, s, m, args, below, meth, c, Q, D, A⟩ := X
  obtain ⟨hx, hb, hown, hts, hK, hA, hml, hR0⟩ := E
  intro H locs ls hR hD hSS hl
  exact lv_lload_n hx hb d rfl (hl.2.2 _ (ow_g_in hg)) (k H locs ls hR hD hSS hl)
theorem or_lload {j : Nat} {x : Int64} (E : ow_E X own cc nL R0) (hg : ow_g lv j = some (.long x)) (d : decode cc pc = .ok (.lload j, 2)) (k : ow_W X cs sl h (pc + 2) lv (.long x :: st)) : ow_W X cs sl h pc lv (st) := by
  obtain ⟨p, l, e, R, s, m, args, below, meth, c, Q, D, A⟩ := X
  obtain ⟨hx, hb, hown, hts, hK, hA, hml, hR0⟩ := E
  intro H locs ls hR hD hSS hl
  exact lv_lload hx hb d (hl.2.2 _ (ow_g_in hg)) (k H locs ls hR hD hSS hl)
theorem or_istore_n {j : Fin 4} {x : Int32} (E : ow_E X own cc nL R0) (d : decode cc pc = .ok (.istore_n j, 1)) (hn : (j : Nat) < nL) (k : ow_W X cs sl h (pc + 1) (ow_s lv (j : Nat) (.int x)) st) : ow_W X cs sl h pc lv (.int x :: st) := by
  obtain ⟨p, l, e, R, s, m, args, below, meth, c, Q, D, A⟩ := X
  obtain ⟨hx, hb, hown, hts, hK, hA, hml, hR0⟩ := E
  intro H locs ls hR hD hSS hl
  exact lv_istore_n hx hb d rfl hl (by rw [hml]; exact hn) rfl (fun ls hl => k H locs ls hR hD hSS hl)
theorem or_istore {j : Nat} {x : Int32} (E : ow_E X own cc nL R0) (d : decode cc pc = .ok (.istore j, 2)) (hn : j < nL) (k : ow_W X cs sl h (pc + 2) (ow_s lv j (.int x)) st) : ow_W X cs sl h pc lv (.int x :: st) := by
  obtain ⟨p, l, e, R, s, m, args, below, meth, c, Q, D, A⟩ := X
  obtain ⟨hx, hb, hown, hts, hK, hA, hml, hR0⟩ := E
  intro H locs ls hR hD hSS hl
  exact lv_istore hx hb d hl (by rw [hml]; exact hn) rfl (fun ls hl => k H locs ls hR hD hSS hl)
theorem or_astore_n {j : Fin 4} {x : Nat} (E : ow_E X own cc nL R0) (d : decode cc pc = .ok (.astore_n j, 1)) (hn : (j : Nat) < nL) (k : ow_W X cs sl h (pc + 1) (ow_s lv (j : Nat) (.ref x)) st) : ow_W X cs sl h pc lv (.ref x :: st) := by
  obtain ⟨p, l, e, R, s, m, args, below, meth, c, Q, D, A⟩ := X
  obtain ⟨hx, hb, hown, hts, hK, hA, hml, hR0⟩ := E
  intro H locs ls hR hD hSS hl
  exact lv_astore_n hx hb d rfl hl (by rw [hml]; exact hn) rfl (fun ls hl => k H locs ls hR hD hSS hl)
theorem or_astore {j : Nat} {x : Nat} (E : ow_E X own cc nL R0) (d : decode cc pc = .ok (.astore j, 2)) (hn : j < nL) (k : ow_W X cs sl h (pc + 2) (ow_s lv j (.ref x)) st) : ow_W X cs sl h pc lv (.ref x :: st) := by
  obtain ⟨p, l, e, R, s, m, args, below, meth, c, Q, D, A⟩ := X
  obtain ⟨hx, hb, hown, hts, hK, hA, hml, hR0⟩ := E
  intro H locs ls hR hD hSS hl
  exact lv_astore hx hb d hl (by rw [hml]; exact hn) rfl (fun ls hl => k H locs ls hR hD hSS hl)
theorem or_fstore_n {j : Fin 4} {x : UInt32} (E : ow_E X own cc nL R0) (d : decode cc pc = .ok (.fstore_n j, 1)) (hn : (j : Nat) < nL) (k : ow_W X cs sl h (pc + 1) (ow_s lv (j : Nat) (.float x)) st) : ow_W X cs sl h pc lv (.float x :: st) := by
  obtain ⟨p, l, e, R, s, m, args, below, meth, c, Q, D, A⟩ := X
  obtain ⟨hx, hb, hown, hts, hK, hA, hml, hR0⟩ := E
  intro H locs ls hR hD hSS hl
  exact lv_fstore_n hx hb d rfl hl (by rw [hml]; exact hn) rfl (fun ls hl => k H locs ls hR hD hSS hl)
theorem or_fstore {j : Nat} {x : UInt32} (E : ow_E X own cc nL R0) (d : decode cc pc = .ok (.fstore j, 2)) (hn : j < nL) (k : ow_W X cs sl h (pc + 2) (ow_s lv j (.float x)) st) : ow_W X cs sl h pc lv (.float x :: st) := by
  obtain ⟨p, l, e, R, s, m, args, below, meth, c, Q, D, A⟩ := X
  obtain ⟨hx, hb, hown, hts, hK, hA, hml, hR0⟩ := E
  intro H locs ls hR hD hSS hl
  exact lv_fstore hx hb d hl (by rw [hml]; exact hn) rfl (fun ls hl => k H locs ls hR hD hSS hl)
theorem or_dstore_n {j : Fin 4} {x : UInt64} (E : ow_E X own cc nL R0) (d : decode cc pc = .ok (.dstore_n j, 1)) (hn : (j : Nat) + 1 < nL) (k : ow_W X cs sl h (pc + 1) (ow_s2 lv (j : Nat) (.double x)) st) : ow_W X cs sl h pc lv (.double x :: st) := by
  obtain ⟨p, l, e, R, s, m, args, below, meth, c, Q, D, A⟩ := X
  obtain ⟨hx, hb, hown, hts, hK, hA, hml, hR0⟩ := E
  intro H locs ls hR hD hSS hl
  exact lv_dstore_n hx hb d rfl hl (by rw [hml]; exact hn) rfl (fun ls hl => k H locs ls hR hD hSS hl)
theorem or_dstore {j : Nat} {x : UInt64} (E : ow_E X own cc nL R0) (d : decode cc pc = .ok (.dstore j, 2)) (hn : j + 1 < nL) (k : ow_W X cs sl h (pc + 2) (ow_s2 lv j (.double x)) st) : ow_W X cs sl h pc lv (.double x :: st) := by
  obtain ⟨p, l, e, R, s, m, args, below, meth, c, Q, D, A⟩ := X
  obtain ⟨hx, hb, hown, hts, hK, hA, hml, hR0⟩ := E
  intro H locs ls hR hD hSS hl
  exact lv_dstore hx hb d hl (by rw [hml]; exact hn) rfl (fun ls hl => k H locs ls hR hD hSS hl)
theorem or_lstore_n {j : Fin 4} {x : Int64} (E : ow_E X own cc nL R0) (d : decode cc pc = .ok (.lstore_n j, 1)) (hn : (j : Nat) + 1 < nL) (k : ow_W X cs sl h (pc + 1) (ow_s2 lv (j : Nat) (.long x)) st) : ow_W X cs sl h pc lv (.long x :: st) := by
  obtain ⟨p, l, e, R, s, m, args, below, meth, c, Q, D, A⟩ := X
  obtain ⟨hx, hb, hown, hts, hK, hA, hml, hR0⟩ := E
  intro H locs ls hR hD hSS hl
  exact lv_lstore_n hx hb d rfl hl (by rw [hml]; exact hn) rfl (fun ls hl => k H locs ls hR hD hSS hl)
theorem or_lstore {j : Nat} {x : Int64} (E : ow_E X own cc nL R0) (d : decode cc pc = .ok (.lstore j, 2)) (hn : j + 1 < nL) (k : ow_W X cs sl h (pc + 2) (ow_s2 lv j (.long x)) st) : ow_W X cs sl h pc lv (.long x :: st) := by
  obtain ⟨p, l, e, R, s, m, args, below, meth, c, Q, D, A⟩ := X
  obtain ⟨hx, hb, hown, hts, hK, hA, hml, hR0⟩ := E
  intro H locs ls hR hD hSS hl
  exact lv_lstore hx hb d hl (by rw [hml]; exact hn) rfl (fun ls hl => k H locs ls hR hD hSS hl)
theorem or_iinc {j : Nat} {n : Int} {x : Int32} (E : ow_E X own cc nL R0) (d : decode cc pc = .ok (.iinc j n, 3)) (hg : ow_g lv j = some (.int x)) (hn : j < nL) (k : ow_W X cs sl h (pc + 3) (ow_s lv j (.int (x + Int32.ofInt n))) st) : ow_W X cs sl h pc lv st := by
  obtain ⟨p, l, e, R, s, m, args, below, meth, c, Q, D, A⟩ := X
  obtain ⟨hx, hb, hown, hts, hK, hA, hml, hR0⟩ := E
  intro H locs ls hR hD hSS hl
  obtain ⟨i, hi⟩ := List.getElem?_of_mem (ow_g_in hg)
  exact lv_iinc hx hb d hl hi rfl (by rw [hml]; exact hn) rfl (fun ls hl => k H locs ls hR hD hSS hl)
theorem or_iadd {x y : Int32} (E : ow_E X own cc nL R0) (d : decode cc pc = .ok (.iadd, 1)) (k : ow_W X cs sl h (pc + 1) lv (.int (x + y) :: st)) : ow_W X cs sl h pc lv (.int y :: .int x :: st) := by
  obtain ⟨p, l, e, R, s, m, args, below, meth, c, Q, D, A⟩ := X
  obtain ⟨hx, hb, hown, hts, hK, hA, hml, hR0⟩ := E
  intro H locs ls hR hD hSS hl
  exact lv_iadd hx hb d (k H locs ls hR hD hSS hl)
theorem or_isub {x y : Int32} (E : ow_E X own cc nL R0) (d : decode cc pc = .ok (.isub, 1)) (k : ow_W X cs sl h (pc + 1) lv (.int (x - y) :: st)) : ow_W X cs sl h pc lv (.int y :: .int x :: st) := by
  obtain ⟨p, l, e, R, s, m, args, below, meth, c, Q, D, A⟩ := X
  obtain ⟨hx, hb, hown, hts, hK, hA, hml, hR0⟩ := E
  intro H locs ls hR hD hSS hl
  exact lv_isub hx hb d (k H locs ls hR hD hSS hl)
theorem or_imul {x y : Int32} (E : ow_E X own cc nL R0) (d : decode cc pc = .ok (.imul, 1)) (k : ow_W X cs sl h (pc + 1) lv (.int (x * y) :: st)) : ow_W X cs sl h pc lv (.int y :: .int x :: st) := by
  obtain ⟨p, l, e, R, s, m, args, below, meth, c, Q, D, A⟩ := X
  obtain ⟨hx, hb, hown, hts, hK, hA, hml, hR0⟩ := E
  intro H locs ls hR hD hSS hl
  exact lv_imul hx hb d (k H locs ls hR hD hSS hl)
theorem or_iand {x y : Int32} (E : ow_E X own cc nL R0) (d : decode cc pc = .ok (.iand, 1)) (k : ow_W X cs sl h (pc + 1) lv (.int (x &&& y) :: st)) : ow_W X cs sl h pc lv (.int y :: .int x :: st) := by
  obtain ⟨p, l, e, R, s, m, args, below, meth, c, Q, D, A⟩ := X
  obtain ⟨hx, hb, hown, hts, hK, hA, hml, hR0⟩ := E
  intro H locs ls hR hD hSS hl
  exact lv_iand hx hb d (k H locs ls hR hD hSS hl)
theorem or_idiv {x y : Int32} (E : ow_E X own cc nL R0) (hne : ¬ y = 0) (d : decode cc pc = .ok (.idiv, 1)) (k : ow_W X cs sl h (pc + 1) lv (.int (x / y) :: st)) : ow_W X cs sl h pc lv (.int y :: .int x :: st) := by
  obtain ⟨p, l, e, R, s, m, args, below, meth, c, Q, D, A⟩ := X
  obtain ⟨hx, hb, hown, hts, hK, hA, hml, hR0⟩ := E
  intro H locs ls hR hD hSS hl
  exact lv_idiv hx hb d hne (k H locs ls hR hD hSS hl)
theorem or_irem {x y : Int32} (E : ow_E X own cc nL R0) (hne : ¬ y = 0) (d : decode cc pc = .ok (.irem, 1)) (k : ow_W X cs sl h (pc + 1) lv (.int (x - x / y * y) :: st)) : ow_W X cs sl h pc lv (.int y :: .int x :: st) := by
  obtain ⟨p, l, e, R, s, m, args, below, meth, c, Q, D, A⟩ := X
  obtain ⟨hx, hb, hown, hts, hK, hA, hml, hR0⟩ := E
  intro H locs ls hR hD hSS hl
  exact lv_irem hx hb d hne (k H locs ls hR hD hSS hl)
theorem or_ishr {x y : Int32} (E : ow_E X own cc nL R0) (d : decode cc pc = .ok (.ishr, 1)) (k : ow_W X cs sl h (pc + 1) lv (.int (x >>> (y &&& 31)) :: st)) : ow_W X cs sl h pc lv (.int y :: .int x :: st) := by
  obtain ⟨p, l, e, R, s, m, args, below, meth, c, Q, D, A⟩ := X
  obtain ⟨hx, hb, hown, hts, hK, hA, hml, hR0⟩ := E
  intro H locs ls hR hD hSS hl
  exact lv_ishr hx hb d (k H locs ls hR hD hSS hl)
theorem or_iushr {x y : Int32} (E : ow_E X own cc nL R0) (d : decode cc pc = .ok (.iushr, 1)) (k : ow_W X cs sl h (pc + 1) lv (.int (x.toUInt32 >>> (y.toUInt32 &&& Int32.toUInt32 31)).toInt32 :: st)) : ow_W X cs sl h pc lv (.int y :: .int x :: st) := by
  obtain ⟨p, l, e, R, s, m, args, below, meth, c, Q, D, A⟩ := X
  obtain ⟨hx, hb, hown, hts, hK, hA, hml, hR0⟩ := E
  intro H locs ls hR hD hSS hl
  exact lv_iushr hx hb d rfl (k H locs ls hR hD hSS hl)
theorem or_i2l {x : Int32} (E : ow_E X own cc nL R0) (d : decode cc pc = .ok (.i2l, 1)) (k : ow_W X cs sl h (pc + 1) lv (.long x.toInt64 :: st)) : ow_W X cs sl h pc lv (.int x :: st) := by
  obtain ⟨p, l, e, R, s, m, args, below, meth, c, Q, D, A⟩ := X
  obtain ⟨hx, hb, hown, hts, hK, hA, hml, hR0⟩ := E
  intro H locs ls hR hD hSS hl
  exact lv_i2l hx hb d rfl (k H locs ls hR hD hSS hl)
theorem or_i2b {x : Int32} (E : ow_E X own cc nL R0) (d : decode cc pc = .ok (.i2b, 1)) (k : ow_W X cs sl h (pc + 1) lv (.int x.toInt8.toInt32 :: st)) : ow_W X cs sl h pc lv (.int x :: st) := by
  obtain ⟨p, l, e, R, s, m, args, below, meth, c, Q, D, A⟩ := X
  obtain ⟨hx, hb, hown, hts, hK, hA, hml, hR0⟩ := E
  intro H locs ls hR hD hSS hl
  exact lv_i2b hx hb d rfl (k H locs ls hR hD hSS hl)
theorem or_dup {v : Value} (E : ow_E X own cc nL R0) (hc : v.category = 1) (d : decode cc pc = .ok (.dup, 1)) (k : ow_W X cs sl h (pc + 1) lv (v :: v :: st)) : ow_W X cs sl h pc lv (v :: st) := by
  obtain ⟨p, l, e, R, s, m, args, below, meth, c, Q, D, A⟩ := X
  obtain ⟨hx, hb, hown, hts, hK, hA, hml, hR0⟩ := E
  intro H locs ls hR hD hSS hl
  exact lv_dup hx hb d hc (k H locs ls hR hD hSS hl)
theorem or_dup2 {v w : Value} (E : ow_E X own cc nL R0) (hc : v.category = 1) (hc2 : w.category = 1) (d : decode cc pc = .ok (.dup2, 1)) (k : ow_W X cs sl h (pc + 1) lv (v :: w :: v :: w :: st)) : ow_W X cs sl h pc lv (v :: w :: st) := by
  obtain ⟨p, l, e, R, s, m, args, below, meth, c, Q, D, A⟩ := X
  obtain ⟨hx, hb, hown, hts, hK, hA, hml, hR0⟩ := E
  intro H locs ls hR hD hSS hl
  exact lv_dup2_11 hx hb d hc hc2 (k H locs ls hR hD hSS hl)
theorem or_pop {v : Value} (E : ow_E X own cc nL R0) (hc : v.category = 1) (d : decode cc pc = .ok (.pop, 1)) (k : ow_W X cs sl h (pc + 1) lv (st)) : ow_W X cs sl h pc lv (v :: st) := by
  obtain ⟨p, l, e, R, s, m, args, below, meth, c, Q, D, A⟩ := X
  obtain ⟨hx, hb, hown, hts, hK, hA, hml, hR0⟩ := E
  intro H locs ls hR hD hSS hl
  exact lv_pop hx hb d hc (k H locs ls hR hD hSS hl)
theorem or_null (E : ow_E X own cc nL R0) (d : decode cc pc = .ok (.aconst_null, 1)) (k : ow_W X cs sl h (pc + 1) lv (.null :: st)) : ow_W X cs sl h pc lv (st) := by
  obtain ⟨p, l, e, R, s, m, args, below, meth, c, Q, D, A⟩ := X
  obtain ⟨hx, hb, hown, hts, hK, hA, hml, hR0⟩ := E
  intro H locs ls hR hD hSS hl
  exact lv_null hx hb d (k H locs ls hR hD hSS hl)
theorem or_if_eq {x : Int32} {off : Int} (t : Nat) (E : ow_E X own cc nL R0) (d : decode cc pc = .ok (.ifCond .eq off, 3)) (ht : (pc : Int) + off = (t : Int)) (kt : x = 0 → ow_W X cs sl h t lv st) (kf : ¬ x = 0 → ow_W X cs sl h (pc + 3) lv st) : ow_W X cs sl h pc lv (.int x :: st) := by
  obtain ⟨p, l, e, R, s, m, args, below, meth, c, Q, D, A⟩ := X
  obtain ⟨hx, hb, hown, hts, hK, hA, hml, hR0⟩ := E
  intro H locs ls hR hD hSS hl
  exact lv_if_eq hx hb d ht (fun q => kt q H locs ls hR hD hSS hl) (fun q => kf q H locs ls hR hD hSS hl)
theorem or_if_ne {x : Int32} {off : Int} (t : Nat) (E : ow_E X own cc nL R0) (d : decode cc pc = .ok (.ifCond .ne off, 3)) (ht : (pc : Int) + off = (t : Int)) (kt : ¬ x = 0 → ow_W X cs sl h t lv st) (kf : x = 0 → ow_W X cs sl h (pc + 3) lv st) : ow_W X cs sl h pc lv (.int x :: st) := by
  obtain ⟨p, l, e, R, s, m, args, below, meth, c, Q, D, A⟩ := X
  obtain ⟨hx, hb, hown, hts, hK, hA, hml, hR0⟩ := E
  intro H locs ls hR hD hSS hl
  exact lv_if_ne hx hb d ht (fun q => kt q H locs ls hR hD hSS hl) (fun q => kf q H locs ls hR hD hSS hl)
theorem or_if_lt {x : Int32} {off : Int} (t : Nat) (E : ow_E X own cc nL R0) (d : decode cc pc = .ok (.ifCond .lt off, 3)) (ht : (pc : Int) + off = (t : Int)) (kt : x < 0 → ow_W X cs sl h t lv st) (kf : ¬ (x < 0) → ow_W X cs sl h (pc + 3) lv st) : ow_W X cs sl h pc lv (.int x :: st) := by
  obtain ⟨p, l, e, R, s, m, args, below, meth, c, Q, D, A⟩ := X
  obtain ⟨hx, hb, hown, hts, hK, hA, hml, hR0⟩ := E
  intro H locs ls hR hD hSS hl
  exact lv_if_lt hx hb d ht (fun q => kt q H locs ls hR hD hSS hl) (fun q => kf q H locs ls hR hD hSS hl)
theorem or_if_ge {x : Int32} {off : Int} (t : Nat) (E : ow_E X own cc nL R0) (d : decode cc pc = .ok (.ifCond .ge off, 3)) (ht : (pc : Int) + off = (t : Int)) (kt : 0 ≤ x → ow_W X cs sl h t lv st) (kf : ¬ (0 ≤ x) → ow_W X cs sl h (pc + 3) lv st) : ow_W X cs sl h pc lv (.int x :: st) := by
  obtain ⟨p, l, e, R, s, m, args, below, meth, c, Q, D, A⟩ := X
  obtain ⟨hx, hb, hown, hts, hK, hA, hml, hR0⟩ := E
  intro H locs ls hR hD hSS hl
  exact lv_if_ge hx hb d ht (fun q => kt q H locs ls hR hD hSS hl) (fun q => kf q H locs ls hR hD hSS hl)
theorem or_if_gt {x : Int32} {off : Int} (t : Nat) (E : ow_E X own cc nL R0) (d : decode cc pc = .ok (.ifCond .gt off, 3)) (ht : (pc : Int) + off = (t : Int)) (kt : 0 < x → ow_W X cs sl h t lv st) (kf : ¬ (0 < x) → ow_W X cs sl h (pc + 3) lv st) : ow_W X cs sl h pc lv (.int x :: st) := by
  obtain ⟨p, l, e, R, s, m, args, below, meth, c, Q, D, A⟩ := X
  obtain ⟨hx, hb, hown, hts, hK, hA, hml, hR0⟩ := E
  intro H locs ls hR hD hSS hl
  exact lv_if_gt hx hb d ht (fun q => kt q H locs ls hR hD hSS hl) (fun q => kf q H locs ls hR hD hSS hl)
theorem or_if_le {x : Int32} {off : Int} (t : Nat) (E : ow_E X own cc nL R0) (d : decode cc pc = .ok (.ifCond .le off, 3)) (ht : (pc : Int) + off = (t : Int)) (kt : x ≤ 0 → ow_W X cs sl h t lv st) (kf : ¬ (x ≤ 0) → ow_W X cs sl h (pc + 3) lv st) : ow_W X cs sl h pc lv (.int x :: st) := by
  obtain ⟨p, l, e, R, s, m, args, below, meth, c, Q, D, A⟩ := X
  obtain ⟨hx, hb, hown, hts, hK, hA, hml, hR0⟩ := E
  intro H locs ls hR hD hSS hl
  exact lv_if_le hx hb d ht (fun q => kt q H locs ls hR hD hSS hl) (fun q => kf q H locs ls hR hD hSS hl)
theorem or_icmp_eq {x y : Int32} {off : Int} (t : Nat) (E : ow_E X own cc nL R0) (d : decode cc pc = .ok (.if_icmp .eq off, 3)) (ht : (pc : Int) + off = (t : Int)) (kt : x = y → ow_W X cs sl h t lv st) (kf : ¬ x = y → ow_W X cs sl h (pc + 3) lv st) : ow_W X cs sl h pc lv (.int y :: .int x :: st) := by
  obtain ⟨p, l, e, R, s, m, args, below, meth, c, Q, D, A⟩ := X
  obtain ⟨hx, hb, hown, hts, hK, hA, hml, hR0⟩ := E
  intro H locs ls hR hD hSS hl
  exact lv_icmp_eq hx hb d ht (fun q => kt q H locs ls hR hD hSS hl) (fun q => kf q H locs ls hR hD hSS hl)
theorem or_icmp_ne {x y : Int32} {off : Int} (t : Nat) (E : ow_E X own cc nL R0) (d : decode cc pc = .ok (.if_icmp .ne off, 3)) (ht : (pc : Int) + off = (t : Int)) (kt : ¬ x = y → ow_W X cs sl h t lv st) (kf : x = y → ow_W X cs sl h (pc + 3) lv st) : ow_W X cs sl h pc lv (.int y :: .int x :: st) := by
  obtain ⟨p, l, e, R, s, m, args, below, meth, c, Q, D, A⟩ := X
  obtain ⟨hx, hb, hown, hts, hK, hA, hml, hR0⟩ := E
  intro H locs ls hR hD hSS hl
  exact lv_icmp_ne hx hb d ht (fun q => kt q H locs ls hR hD hSS hl) (fun q => kf q H locs ls hR hD hSS hl)
theorem or_icmp_lt {x y : Int32} {off : Int} (t : Nat) (E : ow_E X own cc nL R0) (d : decode cc pc = .ok (.if_icmp .lt off, 3)) (ht : (pc : Int) + off = (t : Int)) (kt : x < y → ow_W X cs sl h t lv st) (kf : ¬ (x < y) → ow_W X cs sl h (pc + 3) lv st) : ow_W X cs sl h pc lv (.int y :: .int x :: st) := by
  obtain ⟨p, l, e, R, s, m, args, below, meth, c, Q, D, A⟩ := X
  obtain ⟨hx, hb, hown, hts, hK, hA, hml, hR0⟩ := E
  intro H locs ls hR hD hSS hl
  exact lv_icmp_lt hx hb d ht (fun q => kt q H locs ls hR hD hSS hl) (fun q => kf q H locs ls hR hD hSS hl)
theorem or_icmp_ge {x y : Int32} {off : Int} (t : Nat) (E : ow_E X own cc nL R0) (d : decode cc pc = .ok (.if_icmp .ge off, 3)) (ht : (pc : Int) + off = (t : Int)) (kt : y ≤ x → ow_W X cs sl h t lv st) (kf : ¬ (y ≤ x) → ow_W X cs sl h (pc + 3) lv st) : ow_W X cs sl h pc lv (.int y :: .int x :: st) := by
  obtain ⟨p, l, e, R, s, m, args, below, meth, c, Q, D, A⟩ := X
  obtain ⟨hx, hb, hown, hts, hK, hA, hml, hR0⟩ := E
  intro H locs ls hR hD hSS hl
  exact lv_icmp_ge hx hb d ht (fun q => kt q H locs ls hR hD hSS hl) (fun q => kf q H locs ls hR hD hSS hl)
theorem or_icmp_gt {x y : Int32} {off : Int} (t : Nat) (E : ow_E X own cc nL R0) (d : decode cc pc = .ok (.if_icmp .gt off, 3)) (ht : (pc : Int) + off = (t : Int)) (kt : y < x → ow_W X cs sl h t lv st) (kf : ¬ (y < x) → ow_W X cs sl h (pc + 3) lv st) : ow_W X cs sl h pc lv (.int y :: .int x :: st) := by
  obtain ⟨p, l, e, R, s, m, args, below, meth, c, Q, D, A⟩ := X
  obtain ⟨hx, hb, hown, hts, hK, hA, hml, hR0⟩ := E
  intro H locs ls hR hD hSS hl
  exact lv_icmp_gt hx hb d ht (fun q => kt q H locs ls hR hD hSS hl) (fun q => kf q H locs ls hR hD hSS hl)
theorem or_icmp_le {x y : Int32} {off : Int} (t : Nat) (E : ow_E X own cc nL R0) (d : decode cc pc = .ok (.if_icmp .le off, 3)) (ht : (pc : Int) + off = (t : Int)) (kt : x ≤ y → ow_W X cs sl h t lv st) (kf : ¬ (x ≤ y) → ow_W X cs sl h (pc + 3) lv st) : ow_W X cs sl h pc lv (.int y :: .int x :: st) := by
  obtain ⟨p, l, e, R, s, m, args, below, meth, c, Q, D, A⟩ := X
  obtain ⟨hx, hb, hown, hts, hK, hA, hml, hR0⟩ := E
  intro H locs ls hR hD hSS hl
  exact lv_icmp_le hx hb d ht (fun q => kt q H locs ls hR hD hSS hl) (fun q => kf q H locs ls hR hD hSS hl)
theorem or_goto {off : Int} (t : Nat) (E : ow_E X own cc nL R0) (d : decode cc pc = .ok (.goto off, 3)) (ht : (pc : Int) + off = (t : Int)) (k : ow_W X cs sl h t lv st) : ow_W X cs sl h pc lv st := by
  obtain ⟨p, l, e, R, s, m, args, below, meth, c, Q, D, A⟩ := X
  obtain ⟨hx, hb, hown, hts, hK, hA, hml, hR0⟩ := E
  intro H locs ls hR hD hSS hl
  exact lv_goto hx hb d ht (k H locs ls hR hD hSS hl)
theorem or_iald {a n j : Nat} {x : Int32} {κ : Nat → Option (Option Value)} (E : ow_E X own cc nL R0) (d : decode cc pc = .ok (.iaload, 1)) (hS : h.1 a = some (.inr (.int, n, κ))) (hk : κ j = none) (hx : x = nI j) (hj : j < n) (hn : n < 2 ^ 31) (k : ow_W X cs sl h (pc + 1) lv (.int (h.2.1 a j) :: st)) : ow_W X cs sl h pc lv (.int x :: .ref a :: st) := by
  obtain ⟨hi, hc⟩ := ow_ix hx hj hn
  obtain ⟨p, l, e, R, s, m, args, below, meth, c, Q, D, A⟩ := X
  obtain ⟨hx0, hb, hown, hts, hK, hA, hml, hR0⟩ := E
  intro H locs ls hR hD hSS hl
  obtain ⟨cA, g1, g2, g3⟩ := hR.1 a _ hS
  exact W.iald (v := .int (h.2.1 a j)) hx0 hb g1 (g2 n _) (fun q => by cases q) (by show ¬ (x < 0 ∨ (arrV _ _ _).slots.size ≤ _); rw [arrV_size]; exact hi) (by rw [hc]; show (arrV _ _ _).slots[_]? = _; rw [arrV_read _ _ hj]; show some (ow_v (κ j) _ _) = _; rw [hk]; rfl) rfl rfl d (k H locs ls hR hD hSS hl)
theorem or_bald {a n j : Nat} {x : Int32} {κ : Nat → Option (Option Value)} (E : ow_E X own cc nL R0) (d : decode cc pc = .ok (.baload, 1)) (hS : h.1 a = some (.inr (.byte, n, κ))) (hk : κ j = none) (hx : x = nI j) (hj : j < n) (hn : n < 2 ^ 31) (k : ow_W X cs sl h (pc + 1) lv (.int (h.2.1 a j) :: st)) : ow_W X cs sl h pc lv (.int x :: .ref a :: st) := by
  obtain ⟨hi, hc⟩ := ow_ix hx hj hn
  obtain ⟨p, l, e, R, s, m, args, below, meth, c, Q, D, A⟩ := X
  obtain ⟨hx0, hb, hown, hts, hK, hA, hml, hR0⟩ := E
  intro H locs ls hR hD hSS hl
  obtain ⟨cA, g1, g2, g3⟩ := hR.1 a _ hS
  exact W.bald (v := .int (h.2.1 a j)) hx0 hb g1 (g2 n _) (fun q => by cases q) (by show ¬ (x < 0 ∨ (arrV _ _ _).slots.size ≤ _); rw [arrV_size]; exact hi) (by rw [hc]; show (arrV _ _ _).slots[_]? = _; rw [arrV_read _ _ hj]; show some (ow_v (κ j) _ _) = _; rw [hk]; rfl) rfl rfl d (k H locs ls hR hD hSS hl)
theorem or_zald {a n j : Nat} {x : Int32} {κ : Nat → Option (Option Value)} (E : ow_E X own cc nL R0) (d : decode cc pc = .ok (.baload, 1)) (hS : h.1 a = some (.inr (.boolean, n, κ))) (hk : κ j = none) (hx : x = nI j) (hj : j < n) (hn : n < 2 ^ 31) (k : ow_W X cs sl h (pc + 1) lv (.int (h.2.1 a j) :: st)) : ow_W X cs sl h pc lv (.int x :: .ref a :: st) := by
  obtain ⟨hi, hc⟩ := ow_ix hx hj hn
  obtain ⟨p, l, e, R, s, m, args, below, meth, c, Q, D, A⟩ := X
  obtain ⟨hx0, hb, hown, hts, hK, hA, hml, hR0⟩ := E
  intro H locs ls hR hD hSS hl
  obtain ⟨cA, g1, g2, g3⟩ := hR.1 a _ hS
  exact W.zald (v := .int (h.2.1 a j)) hx0 hb g1 (g2 n _) (fun q => by cases q) (by show ¬ (x < 0 ∨ (arrV _ _ _).slots.size ≤ _); rw [arrV_size]; exact hi) (by rw [hc]; show (arrV _ _ _).slots[_]? = _; rw [arrV_read _ _ hj]; show some (ow_v (κ j) _ _) = _; rw [hk]; rfl) rfl rfl d (k H locs ls hR hD hSS hl)
theorem or_cald {a n j : Nat} {x : Int32} {κ : Nat → Option (Option Value)} (E : ow_E X own cc nL R0) (d : decode cc pc = .ok (.caload, 1)) (hS : h.1 a = some (.inr (.char, n, κ))) (hk : κ j = none) (hx : x = nI j) (hj : j < n) (hn : n < 2 ^ 31) (k : ow_W X cs sl h (pc + 1) lv (.int (h.2.1 a j) :: st)) : ow_W X cs sl h pc lv (.int x :: .ref a :: st) := by
  obtain ⟨hi, hc⟩ := ow_ix hx hj hn
  obtain ⟨p, l, e, R, s, m, args, below, meth, c, Q, D, A⟩ := X
  obtain ⟨hx0, hb, hown, hts, hK, hA, hml, hR0⟩ := E
  intro H locs ls hR hD hSS hl
  obtain ⟨cA, g1, g2, g3⟩ := hR.1 a _ hS
  exact W.cald (v := .int (h.2.1 a j)) hx0 hb g1 (g2 n _) (fun q => by cases q) (by show ¬ (x < 0 ∨ (arrV _ _ _).slots.size ≤ _); rw [arrV_size]; exact hi) (by rw [hc]; show (arrV _ _ _).slots[_]? = _; rw [arrV_read _ _ hj]; show some (ow_v (κ j) _ _) = _; rw [hk]; rfl) rfl rfl d (k H locs ls hR hD hSS hl)
theorem or_aald {a n j : Nat} {x : Int32} {v : Value} {C : String} {κ : Nat → Option (Option Value)} (E : ow_E X own cc nL R0) (d : decode cc pc = .ok (.aaload, 1)) (hS : h.1 a = some (.inr (.object C, n, κ))) (hk : κ j = some (some v)) (hx : x = nI j) (hj : j < n) (hn : n < 2 ^ 31) (k : ow_W X cs sl h (pc + 1) lv (v :: st)) : ow_W X cs sl h pc lv (.int x :: .ref a :: st) := by
  obtain ⟨hi, hc⟩ := ow_ix hx hj hn
  obtain ⟨p, l, e, R, s, m, args, below, meth, c, Q, D, A⟩ := X
  obtain ⟨hx0, hb, hown, hts, hK, hA, hml, hR0⟩ := E
  intro H locs ls hR hD hSS hl
  obtain ⟨cA, g1, g2, g3⟩ := hR.1 a _ hS
  exact W.aald (v := v) (ty := .object C) hx0 hb g1 (g2 n _) rfl (fun q => by cases q) (by show ¬ (x < 0 ∨ (arrV _ _ _).slots.size ≤ _); rw [arrV_size]; exact hi) (by rw [hc]; show (arrV _ _ _).slots[_]? = _; rw [arrV_read _ _ hj]; show some (ow_v (κ j) _ _) = _; rw [hk]; rfl) rfl rfl d (k H locs ls hR hD hSS hl)
theorem or_iast {a n j : Nat} {x w : Int32} {κ : Nat → Option (Option Value)} (E : ow_E X own cc nL R0) (d : decode cc pc = .ok (.iastore, 1)) (hS : h.1 a = some (.inr (.int, n, κ))) (hk : κ j = none) (hx : x = nI j) (hj : j < n) (hn : n < 2 ^ 31) (k : ow_W X cs sl (ow_pI h a j w) (pc + 1) lv st) : ow_W X cs sl h pc lv (.int w :: .int x :: .ref a :: st) := by
  obtain ⟨hi, hc⟩ := ow_ix hx hj hn
  obtain ⟨p, l, e, R, s, m, args, below, meth, c, Q, D, A⟩ := X
  obtain ⟨hx0, hb, hown, hts, hK, hA, hml, hR0⟩ := E
  intro H locs ls hR hD hSS hl
  obtain ⟨cA, g1, g2, g3⟩ := hR.1 a _ hS
  refine W.iast hx0 hb g1 (g2 n _) (fun q => by cases q) (by show ¬ (x < 0 ∨ (arrV _ _ _).slots.size ≤ _); rw [arrV_size]; exact hi) rfl rfl d fun H1 e z oq => ?_
  refine k H1 _ ls (hR.wr hS z oq (fun b i hb => ow_u_a _ _ _ _ hb i) (fun _ _ _ => rfl) ⟨cA, ?_, g2, g3⟩) hD (hSS.put z oq (hD a _ hS)) hl
  rw [e, hc, arrV_store]
  congr 2
  funext i
  by_cases hij : i = j
  · subst hij
    show updV _ _ _ _ = ow_v (κ i) (ow_u h.2.1 a i _ a i) _
    rw [ow_u_s, hk]
    simp [updV, ow_v]
  · show updV _ _ _ _ = ow_v (κ i) (ow_u h.2.1 a j _ a i) _
    rw [ow_u_k _ _ _ _ hij]
    simp [updV, hij]
theorem or_bast {a n j : Nat} {x w : Int32} {κ : Nat → Option (Option Value)} (E : ow_E X own cc nL R0) (d : decode cc pc = .ok (.bastore, 1)) (hS : h.1 a = some (.inr (.byte, n, κ))) (hk : κ j = none) (hx : x = nI j) (hj : j < n) (hn : n < 2 ^ 31) (k : ow_W X cs sl (ow_pI h a j w.toInt8.toInt32) (pc + 1) lv st) : ow_W X cs sl h pc lv (.int w :: .int x :: .ref a :: st) := by
  obtain ⟨hi, hc⟩ := ow_ix hx hj hn
  obtain ⟨p, l, e, R, s, m, args, below, meth, c, Q, D, A⟩ := X
  obtain ⟨hx0, hb, hown, hts, hK, hA, hml, hR0⟩ := E
  intro H locs ls hR hD hSS hl
  obtain ⟨cA, g1, g2, g3⟩ := hR.1 a _ hS
  refine W.bast hx0 hb g1 (g2 n _) (fun q => by cases q) (by show ¬ (x < 0 ∨ (arrV _ _ _).slots.size ≤ _); rw [arrV_size]; exact hi) rfl rfl d fun H1 e z oq => ?_
  refine k H1 _ ls (hR.wr hS z oq (fun b i hb => ow_u_a _ _ _ _ hb i) (fun _ _ _ => rfl) ⟨cA, ?_, g2, g3⟩) hD (hSS.put z oq (hD a _ hS)) hl
  rw [e, hc, arrV_store]
  congr 2
  funext i
  by_cases hij : i = j
  · subst hij
    show updV _ _ _ _ = ow_v (κ i) (ow_u h.2.1 a i _ a i) _
    rw [ow_u_s, hk]
    simp [updV, ow_v, narrow]
  · show updV _ _ _ _ = ow_v (κ i) (ow_u h.2.1 a j _ a i) _
    rw [ow_u_k _ _ _ _ hij]
    simp [updV, hij]
theorem or_zast {a n j : Nat} {x w : Int32} {κ : Nat → Option (Option Value)} (E : ow_E X own cc nL R0) (d : decode cc pc = .ok (.bastore, 1)) (hS : h.1 a = some (.inr (.boolean, n, κ))) (hk : κ j = none) (hx : x = nI j) (hj : j < n) (hn : n < 2 ^ 31) (k : ow_W X cs sl (ow_pI h a j (w &&& 1)) (pc + 1) lv st) : ow_W X cs sl h pc lv (.int w :: .int x :: .ref a :: st) := by
  obtain ⟨hi, hc⟩ := ow_ix hx hj hn
  obtain ⟨p, l, e, R, s, m, args, below, meth, c, Q, D, A⟩ := X
  obtain ⟨hx0, hb, hown, hts, hK, hA, hml, hR0⟩ := E
  intro H locs ls hR hD hSS hl
  obtain ⟨cA, g1, g2, g3⟩ := hR.1 a _ hS
  refine W.zast hx0 hb g1 (g2 n _) (fun q => by cases q) (by show ¬ (x < 0 ∨ (arrV _ _ _).slots.size ≤ _); rw [arrV_size]; exact hi) rfl rfl d fun H1 e z oq => ?_
  refine k H1 _ ls (hR.wr hS z oq (fun b i hb => ow_u_a _ _ _ _ hb i) (fun _ _ _ => rfl) ⟨cA, ?_, g2, g3⟩) hD (hSS.put z oq (hD a _ hS)) hl
  rw [e, hc, arrV_store]
  congr 2
  funext i
  by_cases hij : i = j
  · subst hij
    show updV _ _ _ _ = ow_v (κ i) (ow_u h.2.1 a i _ a i) _
    rw [ow_u_s, hk]
    simp [updV, ow_v, narrow]
  · show updV _ _ _ _ = ow_v (κ i) (ow_u h.2.1 a j _ a i) _
    rw [ow_u_k _ _ _ _ hij]
    simp [updV, hij]
theorem or_iret {h0 : ow_H} {K : Option Value → ow_H → Prop} {mc ms : Nat} {nm : String} {v : Int32} (E : ow_E X own cc nL R0) (F : ow_F X h0 K mc ms (some .int) nm) (d : decode cc pc = .ok (.ireturn, 1)) (hc : cs ≤ mc) (hs : sl ≤ ms) (k : K (some (.int v)) h) : ow_W X cs sl h pc lv [.int v] := by
  obtain ⟨p, l, e, R, s, m, args, below, meth, c, Q, D, A⟩ := X
  obtain ⟨hx, hb, hown, hts, hK, hA, hml, hR0⟩ := E
  obtain ⟨rfl, rfl, hr, hlocks, hnm⟩ := F
  intro H locs ls hR hD hSS hl
  refine W.widen hc hs ?_
  exact W.iret hx hb hr (fun t ht hW => ⟨⟨_, h, rfl, k, by rw [ht]; exact hR.moved hW.alike, hD⟩, hSS.F ht⟩) hSS.2.2 d hlocks
theorem or_zret {h0 : ow_H} {K : Option Value → ow_H → Prop} {mc ms : Nat} {nm : String} {v : Int32} (E : ow_E X own cc nL R0) (F : ow_F X h0 K mc ms (some .boolean) nm) (d : decode cc pc = .ok (.ireturn, 1)) (hc : cs ≤ mc) (hs : sl ≤ ms) (hv : narrow .boolean (.int v) = .int v) (k : K (some (.int v)) h) : ow_W X cs sl h pc lv [.int v] := by
  obtain ⟨p, l, e, R, s, m, args, below, meth, c, Q, D, A⟩ := X
  obtain ⟨hx, hb, hown, hts, hK, hA, hml, hR0⟩ := E
  obtain ⟨rfl, rfl, hr, hlocks, hnm⟩ := F
  intro H locs ls hR hD hSS hl
  refine W.widen hc hs ?_
  exact W.zret hx hb hr hv (fun t ht hW => ⟨⟨_, h, rfl, k, by rw [ht]; exact hR.moved hW.alike, hD⟩, hSS.F ht⟩) hSS.2.2 d hlocks
theorem or_vret {h0 : ow_H} {K : Option Value → ow_H → Prop} {mc ms : Nat} {nm : String} (E : ow_E X own cc nL R0) (F : ow_F X h0 K mc ms none nm) (d : decode cc pc = .ok (.return_, 1)) (hc : cs ≤ mc) (hs : sl ≤ ms) (k : K none h) : ow_W X cs sl h pc lv [] := by
  obtain ⟨p, l, e, R, s, m, args, below, meth, c, Q, D, A⟩ := X
  obtain ⟨hx, hb, hown, hts, hK, hA, hml, hR0⟩ := E
  obtain ⟨rfl, rfl, hr, hlocks, hnm⟩ := F
  intro H locs ls hR hD hSS hl
  refine W.widen hc hs ?_
  exact W.vret hx hb hr (fun t ht hW => ⟨⟨_, h, rfl, k, by rw [ht]; exact hR.moved hW.alike, hD⟩, hSS.F ht⟩) hSS.2.2 d hlocks
theorem or_dret {h0 : ow_H} {K : Option Value → ow_H → Prop} {mc ms : Nat} {nm : String} {v : UInt64} (E : ow_E X own cc nL R0) (F : ow_F X h0 K mc ms (some .double) nm) (d : decode cc pc = .ok (.dreturn, 1)) (hc : cs ≤ mc) (hs : sl ≤ ms) (k : K (some (.double v)) h) : ow_W X cs sl h pc lv [.double v] := by
  obtain ⟨p, l, e, R, s, m, args, below, meth, c, Q, D, A⟩ := X
  obtain ⟨hx, hb, hown, hts, hK, hA, hml, hR0⟩ := E
  obtain ⟨rfl, rfl, hr, hlocks, hnm⟩ := F
  intro H locs ls hR hD hSS hl
  refine W.widen hc hs ?_
  exact W.dret hx hb hr (fun t ht hW => ⟨⟨_, h, rfl, k, by rw [ht]; exact hR.moved hW.alike, hD⟩, hSS.F ht⟩) hSS.2.2 d hlocks
theorem or_fret {h0 : ow_H} {K : Option Value → ow_H → Prop} {mc ms : Nat} {nm : String} {v : UInt32} (E : ow_E X own cc nL R0) (F : ow_F X h0 K mc ms (some .float) nm) (d : decode cc pc = .ok (.freturn, 1)) (hc : cs ≤ mc) (hs : sl ≤ ms) (k : K (some (.float v)) h) : ow_W X cs sl h pc lv [.float v] := by
  obtain ⟨p, l, e, R, s, m, args, below, meth, c, Q, D, A⟩ := X
  obtain ⟨hx, hb, hown, hts, hK, hA, hml, hR0⟩ := E
  obtain ⟨rfl, rfl, hr, hlocks, hnm⟩ := F
  intro H locs ls hR hD hSS hl
  refine W.widen hc hs ?_
  exact W.fret hx hb hr (fun t ht hW => ⟨⟨_, h, rfl, k, by rw [ht]; exact hR.moved hW.alike, hD⟩, hSS.F ht⟩) hSS.2.2 d hlocks
end OW
