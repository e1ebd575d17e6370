/-! ROWS: bytes copied to a place within an array, out of one of the frame or of the globals; clone and cast of an array of bytes -/
def ow_wr (I : ow_I) (a dp n : Nat) (t : Nat → Int32) : ow_I := fun b j => if b = a ∧ dp ≤ j ∧ j < dp + n then t (j - dp) else I b j
theorem ow_wr_in {I : ow_I} {a dp n j : Nat} {t : Nat → Int32} (h : j < n) : ow_wr I a dp n t a (dp + j) = t j := by
  unfold ow_wr
  rw [if_pos ⟨rfl, by omega, by omega⟩, Nat.add_sub_cancel_left]
theorem ow_wr_a {I : ow_I} {a dp n b : Nat} {t : Nat → Int32} (h : b ≠ a) : ow_wr I a dp n t b = I b := by
  funext j
  unfold ow_wr
  rw [if_neg (fun q => h q.1)]
theorem ow_wr_o {I : ow_I} {a dp n b j : Nat} {t : Nat → Int32} (h : j < dp ∨ dp + n ≤ j) : ow_wr I a dp n t b j = I b j := by
  unfold ow_wr
  rw [if_neg (fun q => by omega)]
/-- bytes that can be read -/
def og_src (X : ow_X) (h : ow_H) (a0 n : Nat) (t : Nat → Int32) : Prop := match X with
  | (_, _, _, _, s, _, _, _, _, _, _, D, A) => ∀ (H : Heap) (locs : List Loc), ow_R D s h H → va_S A s.heap H locs → ∃ cs : Cell, H[a0]? = some cs ∧ s.isArrayOf cs .byte ∧ cs.vm ≠ .unknown ∧ n ≤ cs.slots.size ∧ ∀ j, j < n → cs.slots[j]? = some (.int (t j))
def ow_lcl (own : String) (idx : Nat) : Prop := Cond.methodLink own idx ⟨"[B", "clone", "()Ljava/lang/Object;"⟩ ∈ ow_T ∧ Cond.sameMethod "[B" "java/lang/Object" "clone" "()Ljava/lang/Object;" ∈ ow_T ∧ Cond.native ⟨"java/lang/Object", "clone", "()Ljava/lang/Object;"⟩ ∈ ow_T ∧ Cond.instanceMethod ⟨"java/lang/Object", "clone", "()Ljava/lang/Object;"⟩ ∈ ow_T ∧ Cond.selects "[B" ⟨"[B", "clone", "()Ljava/lang/Object;"⟩ ⟨"java/lang/Object", "clone", "()Ljava/lang/Object;"⟩ ∈ ow_T
section SRC
variable {X : ow_X} {cs sl : Nat} {S : Nat → Option ow_Sh} {I : ow_I} {V : Nat → Nat → Value} {z : Nat} {pc : Nat} {lv : List (Nat × Value)} {st : List Value} {own : String} {cc : ByteArray} {nL kR mcR msR : Nat} {R0 : Room}
theorem og_src_g {h : ow_H} {a0 N : Nat} {f : Nat → Int32} (hT : og_f X (va_T .byte a0 N (fun j => .int (f j)))) : og_src X h a0 N f := by
  obtain ⟨p, l, e, R, s, m, args, below, meth, c, Q, D, A⟩ := X
  intro H locs hR hSS
  obtain ⟨cell, h1, h2, h3, h4, h5, h6, h7⟩ := va_T.kept hT hSS.2.1
  exact ⟨cell, h1, h2, h3, h4, h6⟩
theorem og_src_f {a0 n n0 : Nat} {κ0 : Nat → Option (Option Value)} {t : Nat → Int32} (hS : S a0 = some (.inr (.byte, n0, κ0))) (hk : ∀ j, j < n → κ0 j = none) (hn : n ≤ n0) (ht : ∀ j, j < n → I a0 j = t j) : og_src X (S, I, V, z) a0 n t := by
  obtain ⟨p, l, e, R, s, m, args, below, meth, c, Q, D, A⟩ := X
  intro H locs hR hSS
  obtain ⟨c0, g0, t0, -⟩ := hR.1 a0 _ hS
  refine ⟨_, g0, t0 _ _, (fun h => by cases h), (by rw [arrV_size]; exact hn), fun j hj => ?_⟩
  rw [arrV_read _ _ (Nat.lt_of_lt_of_le hj hn)]
  show some (ow_v (κ0 j) (I a0 j) (V a0 j)) = _
  rw [hk j hj, ht j hj]
  rfl
theorem or_wcopy {idx n a0 a n1 dp : Nat} {κ1 : Nat → Option (Option Value)} {t : Nat → Int32} (E : ow_E X own cc nL R0) (L : ow_lc own idx) (d : decode cc pc = .ok (.invokestatic idx, 3)) (hsrc : og_src X (S, I, V, z) a0 n t) (hS1 : S a = some (.inr (.byte, n1, κ1))) (hk1 : ∀ j, j < n1 → κ1 j = none) (h1 : dp + n ≤ n1) (hn1 : n1 < 2 ^ 31) (hfit : ∀ j, j < n → fits .byte (.int (t j)) = true)
    (hRf : 1 ≤ R0.frames ∧ (st.map fun v => v.category).sum + (nativeFrameWords "java/lang/System" "arraycopy" 5 + 11) ≤ R0.locals) (k : ow_W X cs sl (S, ow_wr I a dp n t, V, z) (pc + 3) lv st) : ow_W X cs sl (S, I, V, z) pc lv (.int (nI n) :: .int (nI dp) :: .ref a :: .int (nI 0) :: .ref a0 :: st) := by
  obtain ⟨p, l, e, R, s, m, args, below, meth, c, Q, D, A⟩ := X
  obtain ⟨hx, hb, hown, hts, hK, hA, hml, hR0⟩ := E
  obtain ⟨w1, w2, w3, w4⟩ := L
  intro H locs ls hR hD hSS hl
  subst hR0
  obtain ⟨scr, g0, hi0, hs3, hs4, hs5⟩ := hsrc H locs hR hSS
  obtain ⟨c1, g1, t1, r1⟩ := hR.1 a _ hS1
  intro T hT X
  obtain ⟨hs6, k0, hk0', cm0, hkk0⟩ := hi0
  obtain ⟨-, k1, hk1', cm1, hkk1⟩ := t1 n1 (fun j => ow_v (κ1 j) (I a j) (V a j))
  have en : (nI n).toNatClampNeg = n := nI_clamp (by omega)
  have ed : (nI dp).toNatClampNeg = dp := nI_clamp (by omega)
  have e0 : (nI 0).toNatClampNeg = 0 := rfl
  have ei : (nI n).toInt = (n : Int) := nI_toInt (by omega)
  have ep : (nI dp).toInt = (dp : Int) := nI_toInt (by omega)
  have ez : (nI 0).toInt = 0 := by decide
  have g1' : H[a]? = some (arrV c1 n1 (fun j => ow_v (κ1 j) (I a j) (V a j))) := g1
  obtain ⟨vm', X', step⟩ := X.arraycopy hx hown (hts _ w1) (hts _ w2) (hts _ w3) (hts _ w4) (src := a0) (dst := a) (srcPos := nI 0) (destPos := nI dp) (n := nI n) (by rw [hT]; exact g0) (by rw [hT]; exact g1')
    hs6 (fun _ h => by cases h) hs3 (fun h => by cases h) hk0' hk1' hkk0 hkk1 rfl (by decide) (nI_pos (by omega)) (nI_pos (by omega))
    (by rw [ez, ei]; omega) (by rw [ep, ei, arrV_size]; omega)
    (fun vm₁ _ i hi => by
      rw [en] at hi
      have e : scr.slots.getD ((nI 0).toNatClampNeg + i) .null = .int (t i) := by
        rw [Array.getD_eq_getD_getElem?, e0, Nat.zero_add, hs5 i hi]
        rfl
      rw [e]
      exact ⟨hfit i hi, trivial⟩)
    (g := F0 m pc ls (.int (nI n) :: .int (nI dp) :: .ref a :: .int (nI 0) :: .ref a0 :: st)) rfl hl.1 (rest := st) rfl (by rw [hb]; exact d) hRf.1 (by have := hRf.2; show 2 * 0 + _ + _ ≤ _; omega)
  have e1 : copied scr (arrV c1 n1 (fun j => ow_v (κ1 j) (I a j) (V a j))) (nI 0) (nI dp) (nI n) = arrV c1 n1 (fun j => ow_v (κ1 j) (ow_wr I a dp n t a j) (V a j)) := by
    have e9 := va_copiedX (fun v : Value => v) scr c1 (n0 := n) (n1 := n1) (sp := (nI 0).toNatClampNeg) (dp := (nI dp).toNatClampNeg) (n := (nI n).toNatClampNeg) (fun j => Value.int (t j)) (fun j => ow_v (κ1 j) (I a j) (V a j)) hs5 (by rw [en, e0]; omega)
    refine Eq.trans e9 ?_
    rw [en, e0, ed]
    congr 1
    funext j
    unfold va_cpy
    by_cases hj : dp ≤ j ∧ j < dp + n
    · rw [if_pos hj, Nat.zero_add, hk1 j (by omega)]
      unfold ow_wr
      rw [if_pos ⟨rfl, hj⟩]
      rfl
    · rw [if_neg hj, ow_wr_o (by omega)]
  rw [e1] at X' step
  have hal : a < H.size := (Array.getElem?_eq_some_iff.mp g1').1
  have hheap : ((T.setVm vm').setCell a (arrV c1 n1 (fun j => ow_v (κ1 j) (ow_wr I a dp n t a j) (V a j)))).heap = H.setIfInBounds a (arrV c1 n1 (fun j => ow_v (κ1 j) (ow_wr I a dp n t a j) (V a j))) := by rw [← hT]; rfl
  have oq : ∀ q : Nat, q ≠ a → (H.setIfInBounds a (arrV c1 n1 (fun j => ow_v (κ1 j) (ow_wr I a dp n t a j) (V a j))))[q]? = H[q]? := fun q hq => by simp [Array.getElem?_setIfInBounds, Ne.symm hq]
  have hR1 : ow_R D s (S, ow_wr I a dp n t, V, z) (H.setIfInBounds a (arrV c1 n1 (fun j => ow_v (κ1 j) (ow_wr I a dp n t a j) (V a j)))) := by
    refine hR.wr hS1 (by simp) oq (fun b j hb => by rw [ow_wr_a hb]) (fun _ _ _ => rfl) ?_
    exact ⟨c1, by simp [Array.getElem?_setIfInBounds, hal], t1, r1⟩
  have hAa : A a := hD a _ hS1
  obtain ⟨t2, a1, b1⟩ := k _ _ ls hR1 hD (⟨by simp; exact hSS.1, fun q u1 u2 => by
      rw [oq q (fun e => u2 (by rw [e]; exact hAa))]
      exact hSS.2.1 q u1 u2, fun q hq => by
      rcases List.mem_append.mp hq with h | h
      · exact hSS.2.2 q h
      · obtain ⟨y, -, hy⟩ := List.mem_map.mp h
        rw [← hy]
        exact hAa⟩) hl _ hheap X'
  exact ⟨t2, step t2 a1, b1⟩
theorem or_clone {idx a n : Nat} (E : ow_E X own cc nL (ow_rm kR mcR msR)) (L : ow_lcl own idx) (hG : og_u X (va_Nw (.castable "[B" "java/lang/Cloneable"))) (d : decode cc pc = .ok (.invokevirtual idx, 3)) (hS : S a = some (.inr (.byte, n, ow_n))) (hf : ∀ j, fits .byte (.int (I a j)) = true) (haz : a ≠ z) (hk : 1 ≤ kR) (hst : (st.map fun v => v.category).sum + 14 ≤ 40 * kR) (hc : cs + 1 ≤ mcR) (hs : sl + n ≤ msR)
    (k : ow_W X (cs + 1) (sl + n) (ow_nS S z (.inr (.byte, n, ow_n)), ow_cp (ow_nI I z) a z n, V, z + 1) (pc + 3) lv (.ref z :: st)) : ow_W X cs sl (S, I, V, z) pc lv (.ref a :: st) := by
  obtain ⟨p, l, e, R, s, m, args, below, meth, c, Q, D, A⟩ := X
  obtain ⟨hx, hb, hown, hts, hK, hA, hml, hR0⟩ := E
  obtain ⟨w1, w2, w3, w4, w5⟩ := L
  intro H locs ls hR hD hSS hl
  subst hR0
  obtain ⟨cA, g1, g2, g3⟩ := hR.1 a _ hS
  have hz : H.size = z := hR.2
  obtain ⟨c0, t0', f1, f2, f3⟩ := Cond.castable_spec (va_Nw.use (A := args) rfl hG)
  have hnm : s.vm.findClass "[B" = some cA := va_nm_byte g3
  cases hnm.symm.trans f1
  obtain ⟨-, kS, hkS, compS, hkindS⟩ := g2 n (fun _ => .null)
  have g1' : H[a]? = some (arrV cA n (fun j => Value.int (I a j))) := g1
  intro T hT X
  obtain ⟨-, kA, hkA, comp, hkind⟩ := State.isArrayOf_alike X.warmed.alike (g2 n (fun _ => .null))
  obtain ⟨vm', X', step⟩ := X.cloneArray hx hown (hts _ w1) (hts _ w2) (hts _ w3) (hts _ w4) (hts _ w5) (a := a) (cell := arrV cA n (fun j => Value.int (I a j))) (by rw [hT]; exact g1') (fun k h => by cases h) (fun h => by cases h) hnm f2 f3
    (fun i v hv => by
      have hk' : T.vm.classes[cA]? = some kA := hkA
      have h8 := va_fit (ty := .byte) (fun i _ => hf i) i v hv
      simpa [State.fitsSlot, State.slotType?, arrV, hk', hkind] using h8)
    (g := F0 m pc ls (.ref a :: st)) rfl hl.1 rfl (by rw [hb]; exact d) hk (by show 2 * 0 + _ + 14 ≤ _; show 2 * 0 + _ + 14 ≤ 40 * kR; omega) hc (by rw [arrV_size]; exact hs) (hloader := Vm.clonesLoader_of_array hkS hkindS)
  rw [arrV_size] at X'
  have hcell : ({ cls := (arrV cA n (fun j => Value.int (I a j))).cls, slots := (arrV cA n (fun j => Value.int (I a j))).slots } : Cell) = arrV cA n (fun j => Value.int (I a j)) := rfl
  rw [hcell] at X' step
  generalize hH1 : H.push (arrV cA n (fun j => Value.int (I a j))) = H1
  have z1 : H1.size = H.size + 1 := by rw [← hH1, Array.size_push]
  have e1 : H1[H.size]? = some (arrV cA n (fun j => Value.int (I a j))) := by rw [← hH1, Array.getElem?_push_size]
  have o1 : ∀ q : Nat, q < H.size → H1[q]? = H[q]? := fun q hq => by rw [← hH1, Array.getElem?_push, if_neg (Nat.ne_of_lt hq)]
  have hheap : ((T.setVm vm').pushCell (arrV cA n (fun j => Value.int (I a j)))).heap = H1 := by rw [← hH1, ← hT]; rfl
  have hTz : T.heap.size = z := by rw [hT]; exact hz
  rw [hTz] at step
  have e2 : arrV cA n (fun j => Value.int (I a j)) = arrV cA n (fun j => ow_v (ow_n j) (ow_cp (ow_nI I z) a z n z j) (V z j)) := by
    unfold arrV
    congr 1
    apply Array.ext_getElem?
    intro i
    by_cases hi : i < n
    · simp [hi, ow_n, ow_v, ow_cp_in hi, ow_nI_o I haz]
    · simp [hi]
  obtain ⟨t, b1, b2⟩ := k H1 locs ls (hR.new (by rw [z1, hz]) (fun q hq => o1 q hq) (fun b j hb => by rw [ow_cp_a hb, ow_nI_o I hb]) (fun _ _ _ => rfl) ⟨cA, by rw [← hz, e1, hz, ← e2], g2, g3⟩) (fun q sh hq => by
      by_cases e9 : q = z
      · exact hA q (by have := hSS.1; omega)
      · exact hD q sh ((ow_nS_o S _ e9).symm.trans hq)) ⟨Nat.le_trans hSS.1 (by omega), fun x h1 h2 => (o1 x (by have := hSS.1; omega)).trans (hSS.2.1 x h1 h2), hSS.2.2⟩ hl _ hheap X'
  exact ⟨t, step t b1, b2⟩
theorem or_castB {idx a n : Nat} {κ : Nat → Option (Option Value)} (E : ow_E X own cc nL R0) (hw : Cond.classLink own idx "[B" ∈ ow_T) (d : decode cc pc = .ok (.checkcast idx, 3)) (hS : S a = some (.inr (.byte, n, κ))) (k : ow_W X cs sl (S, I, V, z) (pc + 3) lv (.ref a :: st)) : ow_W X cs sl (S, I, V, z) pc lv (.ref a :: st) := by
  obtain ⟨p, l, e, R, s, m, args, below, meth, c, Q, D, A⟩ := X
  obtain ⟨hx, hb, hown, hts, hK, hA, hml, hR0⟩ := E
  intro H locs ls hR hD hSS hl
  obtain ⟨cA, g1, g2, g3⟩ := hR.1 a _ hS
  intro T hT X
  obtain ⟨vm', X', step⟩ := X.checkcastYes hx hown (hts _ hw) (by rw [hT]; exact g1) rfl (va_nm_byte g3) (va_asg _ _) (g := F0 m pc ls (.ref a :: st)) rfl rfl (by rw [hb]; exact d)
  obtain ⟨t, a1, b1⟩ := k H locs ls hR hD hSS hl (T.setVm vm') hT X'
  exact ⟨t, step t a1, b1⟩
end SRC
