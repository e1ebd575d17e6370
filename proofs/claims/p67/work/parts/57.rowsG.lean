/-! ROWS: a run of an int array copied, an array's length, references answered -/
def ow_cp (I : ow_I) (a0 a n : Nat) : ow_I := fun b j => if b = a ∧ j < n then I a0 j else I b j
theorem ow_cp_in {I : ow_I} {a0 a n j : Nat} (h : j < n) : ow_cp I a0 a n a j = I a0 j := by simp [ow_cp, h]
theorem ow_cp_a {I : ow_I} {a0 a n b : Nat} (h : b ≠ a) : ow_cp I a0 a n b = I b := by funext j; simp [ow_cp, h]
theorem ow_cp_o {I : ow_I} {a0 a n j : Nat} (h : n ≤ j) (b : Nat) : ow_cp I a0 a n b j = I b j := by
  unfold ow_cp
  rw [if_neg (by omega)]
section RG
variable {X : ow_X} {cs sl : Nat} {S : Nat → Option ow_Sh} {I : ow_I} {V : Nat → Nat → Value} {z : Nat} {pc : Nat} {lv : List (Nat × Value)} {st : List Value} {own : String} {cc : ByteArray} {nL : Nat} {R0 : Room}
def ow_lc (own : String) (idx : Nat) : Prop := Cond.methodLink own idx arraycopyName ∈ ow_T ∧ Cond.native arraycopyName ∈ ow_T ∧ Cond.static arraycopyName ∈ ow_T ∧ Cond.initialized "java/lang/System" ∈ ow_T
theorem or_acopy {idx n a0 a n0 n1 : Nat} {κ0 κ1 : Nat → Option (Option Value)} (E : ow_E X own cc nL R0) (L : ow_lc own idx) (d : decode cc pc = .ok (.invokestatic idx, 3)) (hS0 : S a0 = some (.inr (.int, n0, κ0))) (hS1 : S a = some (.inr (.int, n1, κ1))) (hk0 : ∀ j, j < n → κ0 j = none) (hk1 : ∀ j, j < n → κ1 j = none) (h0 : n ≤ n0) (h1 : n ≤ n1)
    (hRf : 1 ≤ R0.frames ∧ (st.map fun v => v.category).sum + (nativeFrameWords "java/lang/System" "arraycopy" 5 + 11) ≤ R0.locals) (hn : n < 2 ^ 31) (k : ow_W X cs sl (S, ow_cp I a0 a n, V, z) (pc + 3) lv st) : ow_W X cs sl (S, I, V, z) pc lv (.int (nI n) :: .int (nI 0) :: .ref a :: .int (nI 0) :: .ref a0 :: st) := by
  obtain ⟨p, l, e, R, s, m, args, below, meth, c, Q, D, A⟩ := X
  obtain ⟨hx, hb, hown, hts, hK, hA, hml, hR0⟩ := E
  obtain ⟨w1, w2, w3, w4⟩ := L
  intro H locs ls hR hD hSS hl
  subst hR0
  obtain ⟨c0, g0, t0, -⟩ := hR.1 a0 _ hS0
  obtain ⟨c1, g1, t1, r1⟩ := hR.1 a _ hS1
  intro T hT X
  obtain ⟨-, k0, hk0', cm0, hkk0⟩ := t0 n0 (fun j => ow_v (κ0 j) (I a0 j) (V a0 j))
  obtain ⟨-, k1, hk1', cm1, hkk1⟩ := t1 n1 (fun j => ow_v (κ1 j) (I a j) (V a j))
  have en : (nI n).toNatClampNeg = n := nI_clamp hn
  have e0 : (nI 0).toNatClampNeg = 0 := rfl
  have ei : (nI n).toInt = (n : Int) := nI_toInt hn
  have ez : (nI 0).toInt = 0 := by decide
  have g0' : H[a0]? = some (arrV c0 n0 (fun j => ow_v (κ0 j) (I a0 j) (V a0 j))) := g0
  have g1' : H[a]? = some (arrV c1 n1 (fun j => ow_v (κ1 j) (I a j) (V a j))) := g1
  obtain ⟨vm', X', step⟩ := X.arraycopy hx hown (hts _ w1) (hts _ w2) (hts _ w3) (hts _ w4) (src := a0) (dst := a) (srcPos := nI 0) (destPos := nI 0) (n := nI n) (by rw [hT]; exact g0') (by rw [hT]; exact g1')
    (fun _ h => by cases h) (fun _ h => by cases h) (fun h => by cases h) (fun h => by cases h) hk0' hk1' hkk0 hkk1 rfl (by decide) (by decide) (nI_pos hn)
    (by rw [ez, ei, arrV_size]; omega) (by rw [ez, ei, arrV_size]; omega)
    (fun vm₁ _ i hi => by
      rw [en] at hi
      have e : (arrV c0 n0 (fun j => ow_v (κ0 j) (I a0 j) (V a0 j))).slots.getD ((nI 0).toNatClampNeg + i) .null = .int (I a0 i) := by
        rw [Array.getD_eq_getD_getElem?, e0, Nat.zero_add, arrV_read _ _ (by omega), hk0 i hi]
        rfl
      rw [e]
      exact ⟨rfl, trivial⟩)
    (g := F0 m pc ls (.int (nI n) :: .int (nI 0) :: .ref a :: .int (nI 0) :: .ref a0 :: st)) rfl hl.1 (rest := st) rfl (by rw [hb]; exact d) hRf.1 (by have := hRf.2; show 2 * 0 + _ + _ ≤ _; omega)
  have e1 : copied (arrV c0 n0 (fun j => ow_v (κ0 j) (I a0 j) (V a0 j))) (arrV c1 n1 (fun j => ow_v (κ1 j) (I a j) (V a j))) (nI 0) (nI 0) (nI n) = arrV c1 n1 (fun j => ow_v (κ1 j) (ow_cp I a0 a n a j) (V a j)) := by
    refine Eq.trans (va_copied (fun v : Value => v) c0 c1 (sp := (nI 0).toNatClampNeg) (dp := (nI 0).toNatClampNeg) (n := (nI n).toNatClampNeg) _ _ (by rw [en, e0]; omega)) ?_
    congr 1
    funext j
    rw [en, e0]
    unfold va_cpy
    by_cases hj : j < n
    · rw [if_pos (by omega), Nat.zero_add, Nat.sub_zero]
      show ow_v (κ0 j) (I a0 j) (V a0 j) = _
      rw [hk0 j hj, hk1 j hj, ow_cp_in hj]
      rfl
    · rw [if_neg (by omega), ow_cp_o (by omega)]
  rw [e1] at X' step
  have hal : a < H.size := (Array.getElem?_eq_some_iff.mp g1').1
  have hheap : ((T.setVm vm').setCell a (arrV c1 n1 (fun j => ow_v (κ1 j) (ow_cp I a0 a n a j) (V a j)))).heap = H.setIfInBounds a (arrV c1 n1 (fun j => ow_v (κ1 j) (ow_cp I a0 a n a j) (V a j))) := by rw [← hT]; rfl
  have oq : ∀ q : Nat, q ≠ a → (H.setIfInBounds a (arrV c1 n1 (fun j => ow_v (κ1 j) (ow_cp I a0 a n a j) (V a j))))[q]? = H[q]? := fun q hq => by simp [Array.getElem?_setIfInBounds, Ne.symm hq]
  have hR1 : ow_R D s (S, ow_cp I a0 a n, V, z) (H.setIfInBounds a (arrV c1 n1 (fun j => ow_v (κ1 j) (ow_cp I a0 a n a j) (V a j)))) := by
    refine hR.wr hS1 (by simp) oq (fun b j hb => by rw [ow_cp_a hb]) (fun _ _ _ => rfl) ?_
    exact ⟨c1, by simp [Array.getElem?_setIfInBounds, hal], t1, r1⟩
  have hAa : A a := hD a _ hS1
  obtain ⟨t, a1, b1⟩ := k _ _ ls hR1 hD (⟨by simp; exact hSS.1, fun q u1 u2 => by
      rw [oq q (fun e => u2 (by rw [e]; exact hAa))]
      exact hSS.2.1 q u1 u2, fun q hq => by
      rcases List.mem_append.mp hq with h | h
      · exact hSS.2.2 q h
      · obtain ⟨y, -, hy⟩ := List.mem_map.mp h
        rw [← hy]
        exact hAa⟩) hl _ hheap X'
  exact ⟨t, step t a1, b1⟩
theorem or_alen {a n : Nat} {ty : FieldType} {κ : Nat → Option (Option Value)} (E : ow_E X own cc nL R0) (d : decode cc pc = .ok (.arraylength, 1)) (hS : S a = some (.inr (ty, n, κ))) (k : ow_W X cs sl (S, I, V, z) (pc + 1) lv (.int (nI n) :: st)) : ow_W X cs sl (S, I, V, z) pc lv (.ref a :: st) := by
  obtain ⟨p, l, e, R, s, m, args, below, meth, c, Q, D, A⟩ := X
  obtain ⟨hx, hb, hown, hts, hK, hA, hml, hR0⟩ := E
  intro H locs ls hR hD hSS hl
  obtain ⟨cA, g1, g2, g3⟩ := hR.1 a _ hS
  exact W.alen (n := Int32.ofNat n) hx hb g1 (g2 n _) (by rw [arrV_size]) rfl rfl d (k H locs ls hR hD hSS hl)
def i_max (a b : Int32) : Int32 := if a < b then b else a
def i_min (a b : Int32) : Int32 := if b < a then b else a
def ow_lm (own : String) (idx : Nat) (y : MethodName) (cy : ByteArray) : Prop := Cond.methodLink own idx y ∈ ow_T ∧ Cond.static y ∈ ow_T ∧ Cond.initialized "java/lang/Math" ∈ ow_T ∧ Cond.code y cy 2 (some .int) ∈ ow_T
theorem or_mmax {idx kR mR sR : Nat} {h : ow_H} {x y : Int32} (E : ow_E X own cc nL (ow_rm kR mR sR)) (L : ow_lm own idx Lib.Math.max.name Lib.Math.max.code) (d : decode cc pc = .ok (.invokestatic idx, 3)) (hk : 1 ≤ kR) (hm : cs ≤ mR ∧ sl ≤ sR) (hst : (st.map fun v => v.category).sum ≤ 20) (kk : ow_W X cs sl h (pc + 3) lv (.int (i_max x y) :: st)) : ow_W X cs sl h pc lv (.int y :: .int x :: st) := by
  obtain ⟨p, l, e, R, s, m, args, below, meth, c, Q, D, A⟩ := X
  obtain ⟨hx, hb, hown, hts, hK, hA, hml, rfl⟩ := E
  obtain ⟨w1, w2, w3, w4⟩ := L
  intro H locs ls hR hD hSS hl
  exact va_mmax hx hb hl.1.symm hown (hts _ w1) (hts _ w2) (hts _ w3) (hts _ w4) hk (by show _ + 13 ≤ 40 * kR; omega) hm.1 hm.2 d (kk H locs ls hR hD hSS hl)
theorem or_mmin {idx kR mR sR : Nat} {h : ow_H} {x y : Int32} (E : ow_E X own cc nL (ow_rm kR mR sR)) (L : ow_lm own idx Lib.Math.min.name Lib.Math.min.code) (d : decode cc pc = .ok (.invokestatic idx, 3)) (hk : 1 ≤ kR) (hm : cs ≤ mR ∧ sl ≤ sR) (hst : (st.map fun v => v.category).sum ≤ 20) (kk : ow_W X cs sl h (pc + 3) lv (.int (i_min x y) :: st)) : ow_W X cs sl h pc lv (.int y :: .int x :: st) := by
  obtain ⟨p, l, e, R, s, m, args, below, meth, c, Q, D, A⟩ := X
  obtain ⟨hx, hb, hown, hts, hK, hA, hml, rfl⟩ := E
  obtain ⟨w1, w2, w3, w4⟩ := L
  intro H locs ls hR hD hSS hl
  exact va_mmin hx hb hl.1.symm hown (hts _ w1) (hts _ w2) (hts _ w3) (hts _ w4) hk (by show _ + 13 ≤ 40 * kR; omega) hm.1 hm.2 d (kk H locs ls hR hD hSS hl)
end RG
