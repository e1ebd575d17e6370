/-! ROWS of doubles, floats, switches -/
section OWF
variable {X : ow_X} {cs sl : Nat} {h : ow_H} {pc : Nat} {lv : List (Nat × Value)} {st : List Value} {own : String} {cc : ByteArray} {nL : Nat} {R0 : Room}
theorem or_i2d {x : Int32} (E : ow_E X own cc nL R0) (d : decode cc pc = .ok (.i2d, 1)) (k : ow_W X cs sl h (pc + 1) lv (.double (FP.i2d x) :: st)) : ow_W X cs sl h pc lv (.int x :: st) := by
  obtain ⟨p, l, e, R, s, m, args, below, meth, c, Q, D, A⟩ := X
  obtain ⟨hx, hb, hown, hts, hK, hA, hml, hR0⟩ := E
  intro H locs ls hR hD hSS hl
  exact lv_i2d hx hb d (k H locs ls hR hD hSS hl)
theorem or_i2f {x : Int32} (E : ow_E X own cc nL R0) (d : decode cc pc = .ok (.i2f, 1)) (k : ow_W X cs sl h (pc + 1) lv (.float (FP.i2f x) :: st)) : ow_W X cs sl h pc lv (.int x :: st) := by
  obtain ⟨p, l, e, R, s, m, args, below, meth, c, Q, D, A⟩ := X
  obtain ⟨hx, hb, hown, hts, hK, hA, hml, hR0⟩ := E
  intro H locs ls hR hD hSS hl
  exact lv_i2f hx hb d (k H locs ls hR hD hSS hl)
theorem or_ddiv {x y : UInt64} (E : ow_E X own cc nL R0) (hn : vf_n64 (FP.ddiv x y)) (d : decode cc pc = .ok (.ddiv, 1)) (k : ow_W X cs sl h (pc + 1) lv (.double (FP.ddiv x y) :: st)) : ow_W X cs sl h pc lv (.double y :: .double x :: st) := by
  obtain ⟨p, l, e, R, s, m, args, below, meth, c, Q, D, A⟩ := X
  obtain ⟨hx, hb, hown, hts, hK, hA, hml, hR0⟩ := E
  intro H locs ls hR hD hSS hl
  exact lv_ddiv hx hb d hn (k H locs ls hR hD hSS hl)
theorem or_fdiv {x y : UInt32} (E : ow_E X own cc nL R0) (hn : vf_n32 (FP.fdiv x y)) (d : decode cc pc = .ok (.fdiv, 1)) (k : ow_W X cs sl h (pc + 1) lv (.float (FP.fdiv x y) :: st)) : ow_W X cs sl h pc lv (.float y :: .float x :: st) := by
  obtain ⟨p, l, e, R, s, m, args, below, meth, c, Q, D, A⟩ := X
  obtain ⟨hx, hb, hown, hts, hK, hA, hml, hR0⟩ := E
  intro H locs ls hR hD hSS hl
  exact lv_fdiv hx hb d hn (k H locs ls hR hD hSS hl)
theorem or_f2d {x : UInt32} (E : ow_E X own cc nL R0) (hn : vf_n64 (FP.f2d x)) (d : decode cc pc = .ok (.f2d, 1)) (k : ow_W X cs sl h (pc + 1) lv (.double (FP.f2d x) :: st)) : ow_W X cs sl h pc lv (.float x :: st) := by
  obtain ⟨p, l, e, R, s, m, args, below, meth, c, Q, D, A⟩ := X
  obtain ⟨hx, hb, hown, hts, hK, hA, hml, hR0⟩ := E
  intro H locs ls hR hD hSS hl
  exact lv_f2d hx hb d hn (k H locs ls hR hD hSS hl)
theorem or_dcmp {x y : UInt64} {op : CmpOp} (E : ow_E X own cc nL R0) (d : decode cc pc = .ok (.dcmp op, 1)) (k : ow_W X cs sl h (pc + 1) lv (.int (Op.cmpValue (FP.dcmp x y) op) :: st)) : ow_W X cs sl h pc lv (.double y :: .double x :: st) := by
  obtain ⟨p, l, e, R, s, m, args, below, meth, c, Q, D, A⟩ := X
  obtain ⟨hx, hb, hown, hts, hK, hA, hml, hR0⟩ := E
  intro H locs ls hR hD hSS hl
  exact lv_dcmp hx hb d (k H locs ls hR hD hSS hl)
theorem or_fcmp {x y : UInt32} {op : CmpOp} (E : ow_E X own cc nL R0) (d : decode cc pc = .ok (.fcmp op, 1)) (k : ow_W X cs sl h (pc + 1) lv (.int (Op.cmpValue (FP.fcmp x y) op) :: st)) : ow_W X cs sl h pc lv (.float y :: .float x :: st) := by
  obtain ⟨p, l, e, R, s, m, args, below, meth, c, Q, D, A⟩ := X
  obtain ⟨hx, hb, hown, hts, hK, hA, hml, hR0⟩ := E
  intro H locs ls hR hD hSS hl
  exact lv_fcmp hx hb d (k H locs ls hR hD hSS hl)
theorem or_dconst0 (E : ow_E X own cc nL R0) (d : decode cc pc = .ok (.dconst 0, 1)) (k : ow_W X cs sl h (pc + 1) lv (.double FP.dconst0 :: st)) : ow_W X cs sl h pc lv (st) := by
  obtain ⟨p, l, e, R, s, m, args, below, meth, c, Q, D, A⟩ := X
  obtain ⟨hx, hb, hown, hts, hK, hA, hml, hR0⟩ := E
  intro H locs ls hR hD hSS hl
  exact lv_dconst0 hx hb d (k H locs ls hR hD hSS hl)
theorem or_fconst0 (E : ow_E X own cc nL R0) (d : decode cc pc = .ok (.fconst 0, 1)) (k : ow_W X cs sl h (pc + 1) lv (.float FP.fconst0 :: st)) : ow_W X cs sl h pc lv (st) := by
  obtain ⟨p, l, e, R, s, m, args, below, meth, c, Q, D, A⟩ := X
  obtain ⟨hx, hb, hown, hts, hK, hA, hml, hR0⟩ := E
  intro H locs ls hR hD hSS hl
  exact lv_fconst0 hx hb d (k H locs ls hR hD hSS hl)
theorem or_ldc2d {j : Nat} {v : UInt64} (E : ow_E X own cc nL R0) (hw : Cond.constantDouble own j v ∈ ow_T) (d : decode cc pc = .ok (.ldc2_w j, 3)) (k : ow_W X cs sl h (pc + 3) lv (.double v :: st)) : ow_W X cs sl h pc lv (st) := by
  obtain ⟨p, l, e, R, s, m, args, below, meth, c, Q, D, A⟩ := X
  obtain ⟨hx, hb, hown, hts, hK, hA, hml, hR0⟩ := E
  intro H locs ls hR hD hSS hl
  exact lv_ldc2d hx hb hown (hts _ hw) d (k H locs ls hR hD hSS hl)
theorem or_ldc {j : Nat} {v : Int32} (E : ow_E X own cc nL R0) (hw : Cond.constant own j v ∈ ow_T) (d : decode cc pc = .ok (.ldc j, 2)) (k : ow_W X cs sl h (pc + 2) lv (.int v :: st)) : ow_W X cs sl h pc lv (st) := by
  obtain ⟨p, l, e, R, s, m, args, below, meth, c, Q, D, A⟩ := X
  obtain ⟨hx, hb, hown, hts, hK, hA, hml, hR0⟩ := E
  intro H locs ls hR hD hSS hl
  exact lv_ldc hx hb hown (hts _ hw) d (k H locs ls hR hD hSS hl)
theorem or_ldcw {j : Nat} {v : Int32} (E : ow_E X own cc nL R0) (hw : Cond.constant own j v ∈ ow_T) (d : decode cc pc = .ok (.ldc_w j, 3)) (k : ow_W X cs sl h (pc + 3) lv (.int v :: st)) : ow_W X cs sl h pc lv (st) := by
  obtain ⟨p, l, e, R, s, m, args, below, meth, c, Q, D, A⟩ := X
  obtain ⟨hx, hb, hown, hts, hK, hA, hml, hR0⟩ := E
  intro H locs ls hR hD hSS hl
  exact lv_ldcw hx hb hown (hts _ hw) d (k H locs ls hR hD hSS hl)
theorem or_tabOut {x : Int32} {dflt lo hi : Int} {offs : Array Int} {len : Nat} (t : Nat) (E : ow_E X own cc nL R0) (d : decode cc pc = .ok (.tableswitch dflt lo hi offs, len)) (ho : x.toInt < lo ∨ hi < x.toInt) (ht : (pc : Int) + dflt = (t : Int)) (k : ow_W X cs sl h t lv st) : ow_W X cs sl h pc lv (.int x :: st) := by
  obtain ⟨p, l, e, R, s, m, args, below, meth, c, Q, D, A⟩ := X
  obtain ⟨hx, hb, hown, hts, hK, hA, hml, hR0⟩ := E
  intro H locs ls hR hD hSS hl
  exact lv_tableOut hx hb d ho ht (k H locs ls hR hD hSS hl)
theorem or_tabIn {x : Int32} {dflt lo hi off : Int} {offs : Array Int} {len : Nat} (t : Nat) (E : ow_E X own cc nL R0) (d : decode cc pc = .ok (.tableswitch dflt lo hi offs, len)) (h1 : ¬ x.toInt < lo) (h2 : ¬ hi < x.toInt) (ho : offs[(x.toInt - lo).toNat]? = some off) (ht : (pc : Int) + off = (t : Int)) (k : ow_W X cs sl h t lv st) : ow_W X cs sl h pc lv (.int x :: st) := by
  obtain ⟨p, l, e, R, s, m, args, below, meth, c, Q, D, A⟩ := X
  obtain ⟨hx, hb, hown, hts, hK, hA, hml, hR0⟩ := E
  intro H locs ls hR hD hSS hl
  exact lv_tableIn hx hb d h1 h2 ho ht (k H locs ls hR hD hSS hl)
/-- the numbers of a switch, all refused -/
theorem sw_out {x : Int32} {lo n : Nat} (hl : lo + n < 2 ^ 31) (hn : ∀ j, j < n → ¬ x = nI (lo + j)) : x.toInt < lo ∨ ((lo + n : Nat) : Int) - 1 < x.toInt := by
  by_cases h1 : x.toInt < lo
  · exact Or.inl h1
  by_cases h2 : ((lo + n : Nat) : Int) - 1 < x.toInt
  · exact Or.inr h2
  exfalso
  obtain ⟨j, hj, rfl⟩ := nI_of (x := x) (by rw [Int32.lt_iff_toInt_lt, Int32.toInt_zero]; omega)
  rw [nI_toInt hj] at h1 h2
  exact hn (j - lo) (by omega) (by rw [show lo + (j - lo) = j by omega])
theorem lt_1 {P : Nat → Prop} (h0 : P 0) : ∀ j, j < 1 → P j := fun j hj => by
  have : j = 0 := by omega
  subst this; exact h0
theorem lt_2 {P : Nat → Prop} (h0 : P 0) (h1 : P 1) : ∀ j, j < 2 → P j := fun j hj => by
  rcases Nat.lt_succ_iff_lt_or_eq.mp hj with h | rfl
  · exact lt_1 h0 j h
  · exact h1
theorem lt_3 {P : Nat → Prop} (h0 : P 0) (h1 : P 1) (h2 : P 2) : ∀ j, j < 3 → P j := fun j hj => by
  rcases Nat.lt_succ_iff_lt_or_eq.mp hj with h | rfl
  · exact lt_2 h0 h1 j h
  · exact h2
theorem lt_4 {P : Nat → Prop} (h0 : P 0) (h1 : P 1) (h2 : P 2) (h3 : P 3) : ∀ j, j < 4 → P j := fun j hj => by
  rcases Nat.lt_succ_iff_lt_or_eq.mp hj with h | rfl
  · exact lt_3 h0 h1 h2 j h
  · exact h3
theorem lt_5 {P : Nat → Prop} (h0 : P 0) (h1 : P 1) (h2 : P 2) (h3 : P 3) (h4 : P 4) : ∀ j, j < 5 → P j := fun j hj => by
  rcases Nat.lt_succ_iff_lt_or_eq.mp hj with h | rfl
  · exact lt_4 h0 h1 h2 h3 j h
  · exact h4
theorem lt_6 {P : Nat → Prop} (h0 : P 0) (h1 : P 1) (h2 : P 2) (h3 : P 3) (h4 : P 4) (h5 : P 5) : ∀ j, j < 6 → P j := fun j hj => by
  rcases Nat.lt_succ_iff_lt_or_eq.mp hj with h | rfl
  · exact lt_5 h0 h1 h2 h3 h4 j h
  · exact h5
theorem lt_7 {P : Nat → Prop} (h0 : P 0) (h1 : P 1) (h2 : P 2) (h3 : P 3) (h4 : P 4) (h5 : P 5) (h6 : P 6) : ∀ j, j < 7 → P j := fun j hj => by
  rcases Nat.lt_succ_iff_lt_or_eq.mp hj with h | rfl
  · exact lt_6 h0 h1 h2 h3 h4 h5 j h
  · exact h6
theorem lt_8 {P : Nat → Prop} (h0 : P 0) (h1 : P 1) (h2 : P 2) (h3 : P 3) (h4 : P 4) (h5 : P 5) (h6 : P 6) (h7 : P 7) : ∀ j, j < 8 → P j := fun j hj => by
  rcases Nat.lt_succ_iff_lt_or_eq.mp hj with h | rfl
  · exact lt_7 h0 h1 h2 h3 h4 h5 h6 j h
  · exact h7
theorem or_tab1 {x : Int32} {lo : Nat} {dflt o0 : Int} {len : Nat} (t0 : Nat) (td : Nat) (E : ow_E X own cc nL R0) (d : decode cc pc = .ok (.tableswitch dflt lo (((lo + 1 : Nat) : Int) - 1) #[o0], len)) (hl : lo + 1 < 2 ^ 31) (g0 : (pc : Int) + o0 = (t0 : Int)) (gd : (pc : Int) + dflt = (td : Int)) (k0 : x = nI (lo + 0) → ow_W X cs sl h t0 lv st) (kd : ¬ x = nI (lo + 0) → ow_W X cs sl h td lv st) : ow_W X cs sl h pc lv (.int x :: st) := by
  by_cases q0 : x = nI (lo + 0)
  · refine or_tabIn t0 E d (by rw [q0, nI_toInt (by omega)]; omega) (by rw [q0, nI_toInt (by omega)]; omega) (by rw [q0, nI_toInt (by omega), show ((lo + 0 : Nat) : Int) - (lo : Int) = ((0 : Nat) : Int) by omega]; rfl) g0 (k0 q0)
  exact or_tabOut td E d (sw_out (n := 1) (by omega) (lt_1 q0)) gd (kd q0)
theorem or_tab2 {x : Int32} {lo : Nat} {dflt o0 o1 : Int} {len : Nat} (t0 : Nat) (t1 : Nat) (td : Nat) (E : ow_E X own cc nL R0) (d : decode cc pc = .ok (.tableswitch dflt lo (((lo + 2 : Nat) : Int) - 1) #[o0, o1], len)) (hl : lo + 2 < 2 ^ 31) (g0 : (pc : Int) + o0 = (t0 : Int)) (g1 : (pc : Int) + o1 = (t1 : Int)) (gd : (pc : Int) + dflt = (td : Int)) (k0 : x = nI (lo + 0) → ow_W X cs sl h t0 lv st) (k1 : ¬ x = nI (lo + 0) → x = nI (lo + 1) → ow_W X cs sl h t1 lv st) (kd : ¬ x = nI (lo + 0) → ¬ x = nI (lo + 1) → ow_W X cs sl h td lv st) : ow_W X cs sl h pc lv (.int x :: st) := by
  by_cases q0 : x = nI (lo + 0)
  · refine or_tabIn t0 E d (by rw [q0, nI_toInt (by omega)]; omega) (by rw [q0, nI_toInt (by omega)]; omega) (by rw [q0, nI_toInt (by omega), show ((lo + 0 : Nat) : Int) - (lo : Int) = ((0 : Nat) : Int) by omega]; rfl) g0 (k0 q0)
  by_cases q1 : x = nI (lo + 1)
  · refine or_tabIn t1 E d (by rw [q1, nI_toInt (by omega)]; omega) (by rw [q1, nI_toInt (by omega)]; omega) (by rw [q1, nI_toInt (by omega), show ((lo + 1 : Nat) : Int) - (lo : Int) = ((1 : Nat) : Int) by omega]; rfl) g1 (k1 q0 q1)
  exact or_tabOut td E d (sw_out (n := 2) (by omega) (lt_2 q0 q1)) gd (kd q0 q1)
theorem or_tab3 {x : Int32} {lo : Nat} {dflt o0 o1 o2 : Int} {len : Nat} (t0 : Nat) (t1 : Nat) (t2 : Nat) (td : Nat) (E : ow_E X own cc nL R0) (d : decode cc pc = .ok (.tableswitch dflt lo (((lo + 3 : Nat) : Int) - 1) #[o0, o1, o2], len)) (hl : lo + 3 < 2 ^ 31) (g0 : (pc : Int) + o0 = (t0 : Int)) (g1 : (pc : Int) + o1 = (t1 : Int)) (g2 : (pc : Int) + o2 = (t2 : Int)) (gd : (pc : Int) + dflt = (td : Int)) (k0 : x = nI (lo + 0) → ow_W X cs sl h t0 lv st) (k1 : ¬ x = nI (lo + 0) → x = nI (lo + 1) → ow_W X cs sl h t1 lv st) (k2 : ¬ x = nI (lo + 0) → ¬ x = nI (lo + 1) → x = nI (lo + 2) → ow_W X cs sl h t2 lv st) (kd : ¬ x = nI (lo + 0) → ¬ x = nI (lo + 1) → ¬ x = nI (lo + 2) → ow_W X cs sl h td lv st) : ow_W X cs sl h pc lv (.int x :: st) := by
  by_cases q0 : x = nI (lo + 0)
  · refine or_tabIn t0 E d (by rw [q0, nI_toInt (by omega)]; omega) (by rw [q0, nI_toInt (by omega)]; omega) (by rw [q0, nI_toInt (by omega), show ((lo + 0 : Nat) : Int) - (lo : Int) = ((0 : Nat) : Int) by omega]; rfl) g0 (k0 q0)
  by_cases q1 : x = nI (lo + 1)
  · refine or_tabIn t1 E d (by rw [q1, nI_toInt (by omega)]; omega) (by rw [q1, nI_toInt (by omega)]; omega) (by rw [q1, nI_toInt (by omega), show ((lo + 1 : Nat) : Int) - (lo : Int) = ((1 : Nat) : Int) by omega]; rfl) g1 (k1 q0 q1)
  by_cases q2 : x = nI (lo + 2)
  · refine or_tabIn t2 E d (by rw [q2, nI_toInt (by omega)]; omega) (by rw [q2, nI_toInt (by omega)]; omega) (by rw [q2, nI_toInt (by omega), show ((lo + 2 : Nat) : Int) - (lo : Int) = ((2 : Nat) : Int) by omega]; rfl) g2 (k2 q0 q1 q2)
  exact or_tabOut td E d (sw_out (n := 3) (by omega) (lt_3 q0 q1 q2)) gd (kd q0 q1 q2)
theorem or_tab4 {x : Int32} {lo : Nat} {dflt o0 o1 o2 o3 : Int} {len : Nat} (t0 : Nat) (t1 : Nat) (t2 : Nat) (t3 : Nat) (td : Nat) (E : ow_E X own cc nL R0) (d : decode cc pc = .ok (.tableswitch dflt lo (((lo + 4 : Nat) : Int) - 1) #[o0, o1, o2, o3], len)) (hl : lo + 4 < 2 ^ 31) (g0 : (pc : Int) + o0 = (t0 : Int)) (g1 : (pc : Int) + o1 = (t1 : Int)) (g2 : (pc : Int) + o2 = (t2 : Int)) (g3 : (pc : Int) + o3 = (t3 : Int)) (gd : (pc : Int) + dflt = (td : Int)) (k0 : x = nI (lo + 0) → ow_W X cs sl h t0 lv st) (k1 : ¬ x = nI (lo + 0) → x = nI (lo + 1) → ow_W X cs sl h t1 lv st) (k2 : ¬ x = nI (lo + 0) → ¬ x = nI (lo + 1) → x = nI (lo + 2) → ow_W X cs sl h t2 lv st) (k3 : ¬ x = nI (lo + 0) → ¬ x = nI (lo + 1) → ¬ x = nI (lo + 2) → x = nI (lo + 3) → ow_W X cs sl h t3 lv st) (kd : ¬ x = nI (lo + 0) → ¬ x = nI (lo + 1) → ¬ x = nI (lo + 2) → ¬ x = nI (lo + 3) → ow_W X cs sl h td lv st) : ow_W X cs sl h pc lv (.int x :: st) := by
  by_cases q0 : x = nI (lo + 0)
  · refine or_tabIn t0 E d (by rw [q0, nI_toInt (by omega)]; omega) (by rw [q0, nI_toInt (by omega)]; omega) (by rw [q0, nI_toInt (by omega), show ((lo + 0 : Nat) : Int) - (lo : Int) = ((0 : Nat) : Int) by omega]; rfl) g0 (k0 q0)
  by_cases q1 : x = nI (lo + 1)
  · refine or_tabIn t1 E d (by rw [q1, nI_toInt (by omega)]; omega) (by rw [q1, nI_toInt (by omega)]; omega) (by rw [q1, nI_toInt (by omega), show ((lo + 1 : Nat) : Int) - (lo : Int) = ((1 : Nat) : Int) by omega]; rfl) g1 (k1 q0 q1)
  by_cases q2 : x = nI (lo + 2)
  · refine or_tabIn t2 E d (by rw [q2, nI_toInt (by omega)]; omega) (by rw [q2, nI_toInt (by omega)]; omega) (by rw [q2, nI_toInt (by omega), show ((lo + 2 : Nat) : Int) - (lo : Int) = ((2 : Nat) : Int) by omega]; rfl) g2 (k2 q0 q1 q2)
  by_cases q3 : x = nI (lo + 3)
  · refine or_tabIn t3 E d (by rw [q3, nI_toInt (by omega)]; omega) (by rw [q3, nI_toInt (by omega)]; omega) (by rw [q3, nI_toInt (by omega), show ((lo + 3 : Nat) : Int) - (lo : Int) = ((3 : Nat) : Int) by omega]; rfl) g3 (k3 q0 q1 q2 q3)
  exact or_tabOut td E d (sw_out (n := 4) (by omega) (lt_4 q0 q1 q2 q3)) gd (kd q0 q1 q2 q3)
theorem or_tab5 {x : Int32} {lo : Nat} {dflt o0 o1 o2 o3 o4 : Int} {len : Nat} (t0 : Nat) (t1 : Nat) (t2 : Nat) (t3 : Nat) (t4 : Nat) (td : Nat) (E : ow_E X own cc nL R0) (d : decode cc pc = .ok (.tableswitch dflt lo (((lo + 5 : Nat) : Int) - 1) #[o0, o1, o2, o3, o4], len)) (hl : lo + 5 < 2 ^ 31) (g0 : (pc : Int) + o0 = (t0 : Int)) (g1 : (pc : Int) + o1 = (t1 : Int)) (g2 : (pc : Int) + o2 = (t2 : Int)) (g3 : (pc : Int) + o3 = (t3 : Int)) (g4 : (pc : Int) + o4 = (t4 : Int)) (gd : (pc : Int) + dflt = (td : Int)) (k0 : x = nI (lo + 0) → ow_W X cs sl h t0 lv st) (k1 : ¬ x = nI (lo + 0) → x = nI (lo + 1) → ow_W X cs sl h t1 lv st) (k2 : ¬ x = nI (lo + 0) → ¬ x = nI (lo + 1) → x = nI (lo + 2) → ow_W X cs sl h t2 lv st) (k3 : ¬ x = nI (lo + 0) → ¬ x = nI (lo + 1) → ¬ x = nI (lo + 2) → x = nI (lo + 3) → ow_W X cs sl h t3 lv st) (k4 : ¬ x = nI (lo + 0) → ¬ x = nI (lo + 1) → ¬ x = nI (lo + 2) → ¬ x = nI (lo + 3) → x = nI (lo + 4) → ow_W X cs sl h t4 lv st) (kd : ¬ x = nI (lo + 0) → ¬ x = nI (lo + 1) → ¬ x = nI (lo + 2) → ¬ x = nI (lo + 3) → ¬ x = nI (lo + 4) → ow_W X cs sl h td lv st) : ow_W X cs sl h pc lv (.int x :: st) := by
  by_cases q0 : x = nI (lo + 0)
  · refine or_tabIn t0 E d (by rw [q0, nI_toInt (by omega)]; omega) (by rw [q0, nI_toInt (by omega)]; omega) (by rw [q0, nI_toInt (by omega), show ((lo + 0 : Nat) : Int) - (lo : Int) = ((0 : Nat) : Int) by omega]; rfl) g0 (k0 q0)
  by_cases q1 : x = nI (lo + 1)
  · refine or_tabIn t1 E d (by rw [q1, nI_toInt (by omega)]; omega) (by rw [q1, nI_toInt (by omega)]; omega) (by rw [q1, nI_toInt (by omega), show ((lo + 1 : Nat) : Int) - (lo : Int) = ((1 : Nat) : Int) by omega]; rfl) g1 (k1 q0 q1)
  by_cases q2 : x = nI (lo + 2)
  · refine or_tabIn t2 E d (by rw [q2, nI_toInt (by omega)]; omega) (by rw [q2, nI_toInt (by omega)]; omega) (by rw [q2, nI_toInt (by omega), show ((lo + 2 : Nat) : Int) - (lo : Int) = ((2 : Nat) : Int) by omega]; rfl) g2 (k2 q0 q1 q2)
  by_cases q3 : x = nI (lo + 3)
  · refine or_tabIn t3 E d (by rw [q3, nI_toInt (by omega)]; omega) (by rw [q3, nI_toInt (by omega)]; omega) (by rw [q3, nI_toInt (by omega), show ((lo + 3 : Nat) : Int) - (lo : Int) = ((3 : Nat) : Int) by omega]; rfl) g3 (k3 q0 q1 q2 q3)
  by_cases q4 : x = nI (lo + 4)
  · refine or_tabIn t4 E d (by rw [q4, nI_toInt (by omega)]; omega) (by rw [q4, nI_toInt (by omega)]; omega) (by rw [q4, nI_toInt (by omega), show ((lo + 4 : Nat) : Int) - (lo : Int) = ((4 : Nat) : Int) by omega]; rfl) g4 (k4 q0 q1 q2 q3 q4)
  exact or_tabOut td E d (sw_out (n := 5) (by omega) (lt_5 q0 q1 q2 q3 q4)) gd (kd q0 q1 q2 q3 q4)
theorem or_tab6 {x : Int32} {lo : Nat} {dflt o0 o1 o2 o3 o4 o5 : Int} {len : Nat} (t0 : Nat) (t1 : Nat) (t2 : Nat) (t3 : Nat) (t4 : Nat) (t5 : Nat) (td : Nat) (E : ow_E X own cc nL R0) (d : decode cc pc = .ok (.tableswitch dflt lo (((lo + 6 : Nat) : Int) - 1) #[o0, o1, o2, o3, o4, o5], len)) (hl : lo + 6 < 2 ^ 31) (g0 : (pc : Int) + o0 = (t0 : Int)) (g1 : (pc : Int) + o1 = (t1 : Int)) (g2 : (pc : Int) + o2 = (t2 : Int)) (g3 : (pc : Int) + o3 = (t3 : Int)) (g4 : (pc : Int) + o4 = (t4 : Int)) (g5 : (pc : Int) + o5 = (t5 : Int)) (gd : (pc : Int) + dflt = (td : Int)) (k0 : x = nI (lo + 0) → ow_W X cs sl h t0 lv st) (k1 : ¬ x = nI (lo + 0) → x = nI (lo + 1) → ow_W X cs sl h t1 lv st) (k2 : ¬ x = nI (lo + 0) → ¬ x = nI (lo + 1) → x = nI (lo + 2) → ow_W X cs sl h t2 lv st) (k3 : ¬ x = nI (lo + 0) → ¬ x = nI (lo + 1) → ¬ x = nI (lo + 2) → x = nI (lo + 3) → ow_W X cs sl h t3 lv st) (k4 : ¬ x = nI (lo + 0) → ¬ x = nI (lo + 1) → ¬ x = nI (lo + 2) → ¬ x = nI (lo + 3) → x = nI (lo + 4) → ow_W X cs sl h t4 lv st) (k5 : ¬ x = nI (lo + 0) → ¬ x = nI (lo + 1) → ¬ x = nI (lo + 2) → ¬ x = nI (lo + 3) → ¬ x = nI (lo + 4) → x = nI (lo + 5) → ow_W X cs sl h t5 lv st) (kd : ¬ x = nI (lo + 0) → ¬ x = nI (lo + 1) → ¬ x = nI (lo + 2) → ¬ x = nI (lo + 3) → ¬ x = nI (lo + 4) → ¬ x = nI (lo + 5) → ow_W X cs sl h td lv st) : ow_W X cs sl h pc lv (.int x :: st) := by
  by_cases q0 : x = nI (lo + 0)
  · refine or_tabIn t0 E d (by rw [q0, nI_toInt (by omega)]; omega) (by rw [q0, nI_toInt (by omega)]; omega) (by rw [q0, nI_toInt (by omega), show ((lo + 0 : Nat) : Int) - (lo : Int) = ((0 : Nat) : Int) by omega]; rfl) g0 (k0 q0)
  by_cases q1 : x = nI (lo + 1)
  · refine or_tabIn t1 E d (by rw [q1, nI_toInt (by omega)]; omega) (by rw [q1, nI_toInt (by omega)]; omega) (by rw [q1, nI_toInt (by omega), show ((lo + 1 : Nat) : Int) - (lo : Int) = ((1 : Nat) : Int) by omega]; rfl) g1 (k1 q0 q1)
  by_cases q2 : x = nI (lo + 2)
  · refine or_tabIn t2 E d (by rw [q2, nI_toInt (by omega)]; omega) (by rw [q2, nI_toInt (by omega)]; omega) (by rw [q2, nI_toInt (by omega), show ((lo + 2 : Nat) : Int) - (lo : Int) = ((2 : Nat) : Int) by omega]; rfl) g2 (k2 q0 q1 q2)
  by_cases q3 : x = nI (lo + 3)
  · refine or_tabIn t3 E d (by rw [q3, nI_toInt (by omega)]; omega) (by rw [q3, nI_toInt (by omega)]; omega) (by rw [q3, nI_toInt (by omega), show ((lo + 3 : Nat) : Int) - (lo : Int) = ((3 : Nat) : Int) by omega]; rfl) g3 (k3 q0 q1 q2 q3)
  by_cases q4 : x = nI (lo + 4)
  · refine or_tabIn t4 E d (by rw [q4, nI_toInt (by omega)]; omega) (by rw [q4, nI_toInt (by omega)]; omega) (by rw [q4, nI_toInt (by omega), show ((lo + 4 : Nat) : Int) - (lo : Int) = ((4 : Nat) : Int) by omega]; rfl) g4 (k4 q0 q1 q2 q3 q4)
  by_cases q5 : x = nI (lo + 5)
  · refine or_tabIn t5 E d (by rw [q5, nI_toInt (by omega)]; omega) (by rw [q5, nI_toInt (by omega)]; omega) (by rw [q5, nI_toInt (by omega), show ((lo + 5 : Nat) : Int) - (lo : Int) = ((5 : Nat) : Int) by omega]; rfl) g5 (k5 q0 q1 q2 q3 q4 q5)
  exact or_tabOut td E d (sw_out (n := 6) (by omega) (lt_6 q0 q1 q2 q3 q4 q5)) gd (kd q0 q1 q2 q3 q4 q5)
theorem or_tab7 {x : Int32} {lo : Nat} {dflt o0 o1 o2 o3 o4 o5 o6 : Int} {len : Nat} (t0 : Nat) (t1 : Nat) (t2 : Nat) (t3 : Nat) (t4 : Nat) (t5 : Nat) (t6 : Nat) (td : Nat) (E : ow_E X own cc nL R0) (d : decode cc pc = .ok (.tableswitch dflt lo (((lo + 7 : Nat) : Int) - 1) #[o0, o1, o2, o3, o4, o5, o6], len)) (hl : lo + 7 < 2 ^ 31) (g0 : (pc : Int) + o0 = (t0 : Int)) (g1 : (pc : Int) + o1 = (t1 : Int)) (g2 : (pc : Int) + o2 = (t2 : Int)) (g3 : (pc : Int) + o3 = (t3 : Int)) (g4 : (pc : Int) + o4 = (t4 : Int)) (g5 : (pc : Int) + o5 = (t5 : Int)) (g6 : (pc : Int) + o6 = (t6 : Int)) (gd : (pc : Int) + dflt = (td : Int)) (k0 : x = nI (lo + 0) → ow_W X cs sl h t0 lv st) (k1 : ¬ x = nI (lo + 0) → x = nI (lo + 1) → ow_W X cs sl h t1 lv st) (k2 : ¬ x = nI (lo + 0) → ¬ x = nI (lo + 1) → x = nI (lo + 2) → ow_W X cs sl h t2 lv st) (k3 : ¬ x = nI (lo + 0) → ¬ x = nI (lo + 1) → ¬ x = nI (lo + 2) → x = nI (lo + 3) → ow_W X cs sl h t3 lv st) (k4 : ¬ x = nI (lo + 0) → ¬ x = nI (lo + 1) → ¬ x = nI (lo + 2) → ¬ x = nI (lo + 3) → x = nI (lo + 4) → ow_W X cs sl h t4 lv st) (k5 : ¬ x = nI (lo + 0) → ¬ x = nI (lo + 1) → ¬ x = nI (lo + 2) → ¬ x = nI (lo + 3) → ¬ x = nI (lo + 4) → x = nI (lo + 5) → ow_W X cs sl h t5 lv st) (k6 : ¬ x = nI (lo + 0) → ¬ x = nI (lo + 1) → ¬ x = nI (lo + 2) → ¬ x = nI (lo + 3) → ¬ x = nI (lo + 4) → ¬ x = nI (lo + 5) → x = nI (lo + 6) → ow_W X cs sl h t6 lv st) (kd : ¬ x = nI (lo + 0) → ¬ x = nI (lo + 1) → ¬ x = nI (lo + 2) → ¬ x = nI (lo + 3) → ¬ x = nI (lo + 4) → ¬ x = nI (lo + 5) → ¬ x = nI (lo + 6) → ow_W X cs sl h td lv st) : ow_W X cs sl h pc lv (.int x :: st) := by
  by_cases q0 : x = nI (lo + 0)
  · refine or_tabIn t0 E d (by rw [q0, nI_toInt (by omega)]; omega) (by rw [q0, nI_toInt (by omega)]; omega) (by rw [q0, nI_toInt (by omega), show ((lo + 0 : Nat) : Int) - (lo : Int) = ((0 : Nat) : Int) by omega]; rfl) g0 (k0 q0)
  by_cases q1 : x = nI (lo + 1)
  · refine or_tabIn t1 E d (by rw [q1, nI_toInt (by omega)]; omega) (by rw [q1, nI_toInt (by omega)]; omega) (by rw [q1, nI_toInt (by omega), show ((lo + 1 : Nat) : Int) - (lo : Int) = ((1 : Nat) : Int) by omega]; rfl) g1 (k1 q0 q1)
  by_cases q2 : x = nI (lo + 2)
  · refine or_tabIn t2 E d (by rw [q2, nI_toInt (by omega)]; omega) (by rw [q2, nI_toInt (by omega)]; omega) (by rw [q2, nI_toInt (by omega), show ((lo + 2 : Nat) : Int) - (lo : Int) = ((2 : Nat) : Int) by omega]; rfl) g2 (k2 q0 q1 q2)
  by_cases q3 : x = nI (lo + 3)
  · refine or_tabIn t3 E d (by rw [q3, nI_toInt (by omega)]; omega) (by rw [q3, nI_toInt (by omega)]; omega) (by rw [q3, nI_toInt (by omega), show ((lo + 3 : Nat) : Int) - (lo : Int) = ((3 : Nat) : Int) by omega]; rfl) g3 (k3 q0 q1 q2 q3)
  by_cases q4 : x = nI (lo + 4)
  · refine or_tabIn t4 E d (by rw [q4, nI_toInt (by omega)]; omega) (by rw [q4, nI_toInt (by omega)]; omega) (by rw [q4, nI_toInt (by omega), show ((lo + 4 : Nat) : Int) - (lo : Int) = ((4 : Nat) : Int) by omega]; rfl) g4 (k4 q0 q1 q2 q3 q4)
  by_cases q5 : x = nI (lo + 5)
  · refine or_tabIn t5 E d (by rw [q5, nI_toInt (by omega)]; omega) (by rw [q5, nI_toInt (by omega)]; omega) (by rw [q5, nI_toInt (by omega), show ((lo + 5 : Nat) : Int) - (lo : Int) = ((5 : Nat) : Int) by omega]; rfl) g5 (k5 q0 q1 q2 q3 q4 q5)
  by_cases q6 : x = nI (lo + 6)
  · refine or_tabIn t6 E d (by rw [q6, nI_toInt (by omega)]; omega) (by rw [q6, nI_toInt (by omega)]; omega) (by rw [q6, nI_toInt (by omega), show ((lo + 6 : Nat) : Int) - (lo : Int) = ((6 : Nat) : Int) by omega]; rfl) g6 (k6 q0 q1 q2 q3 q4 q5 q6)
  exact or_tabOut td E d (sw_out (n := 7) (by omega) (lt_7 q0 q1 q2 q3 q4 q5 q6)) gd (kd q0 q1 q2 q3 q4 q5 q6)
theorem or_tab8 {x : Int32} {lo : Nat} {dflt o0 o1 o2 o3 o4 o5 o6 o7 : Int} {len : Nat} (t0 : Nat) (t1 : Nat) (t2 : Nat) (t3 : Nat) (t4 : Nat) (t5 : Nat) (t6 : Nat) (t7 : Nat) (td : Nat) (E : ow_E X own cc nL R0) (d : decode cc pc = .ok (.tableswitch dflt lo (((lo + 8 : Nat) : Int) - 1) #[o0, o1, o2, o3, o4, o5, o6, o7], len)) (hl : lo + 8 < 2 ^ 31) (g0 : (pc : Int) + o0 = (t0 : Int)) (g1 : (pc : Int) + o1 = (t1 : Int)) (g2 : (pc : Int) + o2 = (t2 : Int)) (g3 : (pc : Int) + o3 = (t3 : Int)) (g4 : (pc : Int) + o4 = (t4 : Int)) (g5 : (pc : Int) + o5 = (t5 : Int)) (g6 : (pc : Int) + o6 = (t6 : Int)) (g7 : (pc : Int) + o7 = (t7 : Int)) (gd : (pc : Int) + dflt = (td : Int)) (k0 : x = nI (lo + 0) → ow_W X cs sl h t0 lv st) (k1 : ¬ x = nI (lo + 0) → x = nI (lo + 1) → ow_W X cs sl h t1 lv st) (k2 : ¬ x = nI (lo + 0) → ¬ x = nI (lo + 1) → x = nI (lo + 2) → ow_W X cs sl h t2 lv st) (k3 : ¬ x = nI (lo + 0) → ¬ x = nI (lo + 1) → ¬ x = nI (lo + 2) → x = nI (lo + 3) → ow_W X cs sl h t3 lv st) (k4 : ¬ x = nI (lo + 0) → ¬ x = nI (lo + 1) → ¬ x = nI (lo + 2) → ¬ x = nI (lo + 3) → x = nI (lo + 4) → ow_W X cs sl h t4 lv st) (k5 : ¬ x = nI (lo + 0) → ¬ x = nI (lo + 1) → ¬ x = nI (lo + 2) → ¬ x = nI (lo + 3) → ¬ x = nI (lo + 4) → x = nI (lo + 5) → ow_W X cs sl h t5 lv st) (k6 : ¬ x = nI (lo + 0) → ¬ x = nI (lo + 1) → ¬ x = nI (lo + 2) → ¬ x = nI (lo + 3) → ¬ x = nI (lo + 4) → ¬ x = nI (lo + 5) → x = nI (lo + 6) → ow_W X cs sl h t6 lv st) (k7 : ¬ x = nI (lo + 0) → ¬ x = nI (lo + 1) → ¬ x = nI (lo + 2) → ¬ x = nI (lo + 3) → ¬ x = nI (lo + 4) → ¬ x = nI (lo + 5) → ¬ x = nI (lo + 6) → x = nI (lo + 7) → ow_W X cs sl h t7 lv st) (kd : ¬ x = nI (lo + 0) → ¬ x = nI (lo + 1) → ¬ x = nI (lo + 2) → ¬ x = nI (lo + 3) → ¬ x = nI (lo + 4) → ¬ x = nI (lo + 5) → ¬ x = nI (lo + 6) → ¬ x = nI (lo + 7) → ow_W X cs sl h td lv st) : ow_W X cs sl h pc lv (.int x :: st) := by
  by_cases q0 : x = nI (lo + 0)
  · refine or_tabIn t0 E d (by rw [q0, nI_toInt (by omega)]; omega) (by rw [q0, nI_toInt (by omega)]; omega) (by rw [q0, nI_toInt (by omega), show ((lo + 0 : Nat) : Int) - (lo : Int) = ((0 : Nat) : Int) by omega]; rfl) g0 (k0 q0)
  by_cases q1 : x = nI (lo + 1)
  · refine or_tabIn t1 E d (by rw [q1, nI_toInt (by omega)]; omega) (by rw [q1, nI_toInt (by omega)]; omega) (by rw [q1, nI_toInt (by omega), show ((lo + 1 : Nat) : Int) - (lo : Int) = ((1 : Nat) : Int) by omega]; rfl) g1 (k1 q0 q1)
  by_cases q2 : x = nI (lo + 2)
  · refine or_tabIn t2 E d (by rw [q2, nI_toInt (by omega)]; omega) (by rw [q2, nI_toInt (by omega)]; omega) (by rw [q2, nI_toInt (by omega), show ((lo + 2 : Nat) : Int) - (lo : Int) = ((2 : Nat) : Int) by omega]; rfl) g2 (k2 q0 q1 q2)
  by_cases q3 : x = nI (lo + 3)
  · refine or_tabIn t3 E d (by rw [q3, nI_toInt (by omega)]; omega) (by rw [q3, nI_toInt (by omega)]; omega) (by rw [q3, nI_toInt (by omega), show ((lo + 3 : Nat) : Int) - (lo : Int) = ((3 : Nat) : Int) by omega]; rfl) g3 (k3 q0 q1 q2 q3)
  by_cases q4 : x = nI (lo + 4)
  · refine or_tabIn t4 E d (by rw [q4, nI_toInt (by omega)]; omega) (by rw [q4, nI_toInt (by omega)]; omega) (by rw [q4, nI_toInt (by omega), show ((lo + 4 : Nat) : Int) - (lo : Int) = ((4 : Nat) : Int) by omega]; rfl) g4 (k4 q0 q1 q2 q3 q4)
  by_cases q5 : x = nI (lo + 5)
  · refine or_tabIn t5 E d (by rw [q5, nI_toInt (by omega)]; omega) (by rw [q5, nI_toInt (by omega)]; omega) (by rw [q5, nI_toInt (by omega), show ((lo + 5 : Nat) : Int) - (lo : Int) = ((5 : Nat) : Int) by omega]; rfl) g5 (k5 q0 q1 q2 q3 q4 q5)
  by_cases q6 : x = nI (lo + 6)
  · refine or_tabIn t6 E d (by rw [q6, nI_toInt (by omega)]; omega) (by rw [q6, nI_toInt (by omega)]; omega) (by rw [q6, nI_toInt (by omega), show ((lo + 6 : Nat) : Int) - (lo : Int) = ((6 : Nat) : Int) by omega]; rfl) g6 (k6 q0 q1 q2 q3 q4 q5 q6)
  by_cases q7 : x = nI (lo + 7)
  · refine or_tabIn t7 E d (by rw [q7, nI_toInt (by omega)]; omega) (by rw [q7, nI_toInt (by omega)]; omega) (by rw [q7, nI_toInt (by omega), show ((lo + 7 : Nat) : Int) - (lo : Int) = ((7 : Nat) : Int) by omega]; rfl) g7 (k7 q0 q1 q2 q3 q4 q5 q6 q7)
  exact or_tabOut td E d (sw_out (n := 8) (by omega) (lt_8 q0 q1 q2 q3 q4 q5 q6 q7)) gd (kd q0 q1 q2 q3 q4 q5 q6 q7)
end OWF
