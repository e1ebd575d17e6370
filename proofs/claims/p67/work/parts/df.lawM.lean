section QROW
variable {X : ow_X} {cs sl : Nat} {pc : Nat} {lv : List (Nat × Value)} {st : List Value} {own : String} {cc : ByteArray} {nL kR mcR msR : Nat} {Z : Nat → Nat} {S S2 : Nat → Option ow_Sh} {I J : ow_I} {V V2 : Nat → Nat → Value} {z : Nat} {y : MethodName} {cy : ByteArray} {n idx k b ci : Nat} {ret : Option FieldType} {v x0 x1 x2 : Value} {κ : Nat → Option (Option Value)} {r0 : vw_C}
theorem or_qV0 (hf : frm S I V S2 J V2) (hC : ow_Cx Z y cy n ret k 0 0 [.ref b] (S, I, V, z) (ox_s S V z 0 (some v) I)) (E : ow_E X own cc nL (ow_rm kR mcR msR)) (G : og_G X Z) (L : ow_lv own idx y cy n ret 0) (d : decode cc pc = .ok (.invokevirtual idx, 3)) (hS : S b = some (.inl (ci, κ))) (hc : ow_cl[ci]? = some r0) (hy : r0.1 = y.cls) (hk : k + 1 ≤ kR) (hn2 : n ≤ 20) (hm : cs ≤ mcR ∧ sl ≤ msR) (hst : (st.map fun v => v.category).sum ≤ 8)
    (kk : ow_W X cs sl (S2, J, V2, z) (pc + 3) lv (v :: st)) : ow_W X cs sl (S2, J, V2, z) pc lv (.ref b :: st) := or_qV [] hf hC E G L d hS hc hy rfl hk hn2 hm hst kk
theorem or_qV1 (hf : frm S I V S2 J V2) (hC : ow_Cx Z y cy n ret k 0 0 [.ref b, x0] (S, I, V, z) (ox_s S V z 0 (some v) I)) (E : ow_E X own cc nL (ow_rm kR mcR msR)) (G : og_G X Z) (L : ow_lv own idx y cy n ret 1) (d : decode cc pc = .ok (.invokevirtual idx, 3)) (hS : S b = some (.inl (ci, κ))) (hc : ow_cl[ci]? = some r0) (hy : r0.1 = y.cls) (hk : k + 1 ≤ kR) (hn2 : n ≤ 20) (hm : cs ≤ mcR ∧ sl ≤ msR) (hst : (st.map fun v => v.category).sum ≤ 8)
    (kk : ow_W X cs sl (S2, J, V2, z) (pc + 3) lv (v :: st)) : ow_W X cs sl (S2, J, V2, z) pc lv (x0 :: .ref b :: st) := or_qV [x0] hf hC E G L d hS hc hy rfl hk hn2 hm hst kk
theorem or_qV2 (hf : frm S I V S2 J V2) (hC : ow_Cx Z y cy n ret k 0 0 [.ref b, x0, x1] (S, I, V, z) (ox_s S V z 0 (some v) I)) (E : ow_E X own cc nL (ow_rm kR mcR msR)) (G : og_G X Z) (L : ow_lv own idx y cy n ret 2) (d : decode cc pc = .ok (.invokevirtual idx, 3)) (hS : S b = some (.inl (ci, κ))) (hc : ow_cl[ci]? = some r0) (hy : r0.1 = y.cls) (hk : k + 1 ≤ kR) (hn2 : n ≤ 20) (hm : cs ≤ mcR ∧ sl ≤ msR) (hst : (st.map fun v => v.category).sum ≤ 8)
    (kk : ow_W X cs sl (S2, J, V2, z) (pc + 3) lv (v :: st)) : ow_W X cs sl (S2, J, V2, z) pc lv (x1 :: x0 :: .ref b :: st) := or_qV [x0, x1] hf hC E G L d hS hc hy rfl hk hn2 hm hst kk
theorem or_qT3 (hf : frm S I V S2 J V2) (hC : ow_Cx Z y cy n ret k 0 0 [x0, x1, x2] (S, I, V, z) (ox_s S V z 0 (some v) I)) (E : ow_E X own cc nL (ow_rm kR mcR msR)) (G : og_G X Z) (L : ow_lt own idx y cy n ret 3) (d : decode cc pc = .ok (.invokestatic idx, 3)) (hk : k + 1 ≤ kR) (hn2 : n ≤ 20) (hm : cs ≤ mcR ∧ sl ≤ msR) (hst : (st.map fun v => v.category).sum ≤ 8)
    (kk : ow_W X cs sl (S2, J, V2, z) (pc + 3) lv (v :: st)) : ow_W X cs sl (S2, J, V2, z) pc lv (x2 :: x1 :: x0 :: st) := or_qT [x0, x1, x2] hf hC E G L d rfl hk hn2 hm hst kk
end QROW
theorem cmp_self {a : UInt64} (h : Jvm.FP.Core.dIsNaN a = false) : Op.cmpValue (FP.dcmp a a) .l = 0 := by
  have e : FP.dcmp a a = some .eq := Jvm.FP.Core.dcmp_self (fun e => by rw [(Jvm.FP.Core.dIsNaN_iff a).mpr e] at h; cases h)
  rw [e]; rfl
theorem cmpf_self {a : UInt32} (h : Jvm.FP.Core.fIsNaN a = false) : Op.cmpValue (FP.fcmp a a) .l = 0 := by
  have e : FP.fcmp a a = some .eq := Jvm.FP.Core.fcmp_self (fun e => by rw [(Jvm.FP.Core.fIsNaN_iff a).mpr e] at h; cases h)
  rw [e]; rfl
theorem nn_dd {x y : Int32} (h : ¬ y = 0) : Op.cmpValue (FP.dcmp (FP.ddiv (FP.i2d x) (FP.i2d y)) (FP.ddiv (FP.i2d x) (FP.i2d y))) .l = 0 :=
  cmp_self (Jvm.FP.Core.ddiv_out (a := Jvm.FP.Core.i2d x) (b := Jvm.FP.Core.i2d y) (Jvm.FP.Core.i2d_fin x).notNaN (Jvm.FP.Core.i2d_fin y) (fun hz => Jvm.FP.Core.i2d_ne_zero h ((Jvm.FP.Core.zero_bits2 _).mp hz)))
theorem nn_ff {x y : Int32} (h : ¬ y = 0) : Op.cmpValue (FP.fcmp (FP.fdiv (FP.i2f x) (FP.i2f y)) (FP.fdiv (FP.i2f x) (FP.i2f y))) .l = 0 :=
  cmpf_self (Jvm.FP.Core.fdiv_out (a := Jvm.FP.Core.i2f x) (b := Jvm.FP.Core.i2f y) (Jvm.FP.Core.i2f_fin x).notNaN (Jvm.FP.Core.i2f_fin y) (fun hz => Jvm.FP.Core.i2f_ne_zero h ((Jvm.FP.Core.zero_bits232 _).mp hz)))
theorem nn_d0 : Op.cmpValue (FP.dcmp FP.dconst0 FP.dconst0) .l = 0 := by decide +kernel
theorem nn_f0 : Op.cmpValue (FP.fcmp FP.fconst0 FP.fconst0) .l = 0 := by decide +kernel
/-- a barrel: its lengths and what is kept of them -/
def brl (c : Nat) (I : ow_I) : Prop := 0 ≤ I c 1 ∧ 1 ≤ tn (I c 1) ∧ tn (I c 1) ≤ 9 ∧ I c 2 = sumL (I (c + 1)) (tn (I c 1)) ∧ I c 3 = maxL (I (c + 1)) (tn (I c 1)) ∧ I c 4 = nI (lonL (I (c + 1)) (tn (I c 1))) ∧ ∀ e, e < tn (I c 1) → ∃ v : Nat, I (c + 1) e = nI v ∧ 10 ≤ v ∧ v ≤ 150
section SF
variable {B x q : Nat} {I : ow_I} {b y : Nat}
theorem li_b (h : LI B x q I) (hk : b < tn (I (x + 1) 10)) : brl (x + 1 + 11 + 2 * b) I := by
  obtain ⟨-, -, ⟨f, hr, hv, hi⟩, -⟩ := h
  have hk' : b < tn (f 7) := by rw [← hr.2.2.1.2.1]; exact hk
  obtain ⟨⟨r1, r2, r3, r4⟩, rl', -⟩ := hr.2.2.2.2.2.2 b hk'
  obtain ⟨e0, e1, e2⟩ := hv.2.2.2.2.2.2.2.2.2 b hk'
  have hl := (hi.2.2.1 b hk').2.2.2
  dsimp only at r1 r2 r3 r4 rl' hl
  have t1 : tn (I (x + 1 + 11 + 2 * b) 1) = tn (f (66 + 15 * b + 0)) := by rw [r1]
  refine ⟨by rw [r1]; exact e0, by rw [t1]; exact e1, by rw [t1]; exact e2, ?_, ?_, ?_, ?_⟩
  · rw [t1, r2]; exact (sumL_c _ (fun e he => rl' e he)).symm
  · rw [t1, r3]; exact (maxL_c _ (fun e he => rl' e he)).symm
  · rw [t1, r4]; exact congrArg nI (lonL_c _ (fun e he => rl' e he)).symm
  · intro e he
    rw [t1] at he
    rw [rl' e he]
    exact hl e he
theorem li_n10 (h : LI B x q I) : tn (I (x + 1) 10) ≤ 20 := (mk_nbar h.2.2.1).2
theorem li_vb (h : LI B x q I) (hk : b < tn (I (x + 1) 10)) : 0 ≤ nI b ∧ tn (nI b) < tn (I (x + 1) 10) := vy_w hk (li_n10 h)
theorem li_vy (h : LI B x q I) (hk : y < tn (I (x + 1) 8)) : 0 ≤ nI y ∧ tn (nI y) < tn (I (x + 1) 8) := vy_w hk (Nat.le_trans (mk_nbuy h.2.2.1).2.2 (by decide))
theorem wl18 {bb : Int32} {yy : Int32} {c : Nat} (hc : c = x + 1 + 11 + 2 * tn bb) (hn9 : tn (I c 1) ≤ 9) : ∀ fuel i, i ≤ tn (I c 1) → tn (I c 1) < i + fuel → L_worth_L18 x yy bb fuel I (sumL (I (c + 1)) i) (maxL (I (c + 1)) i) (lonL (I (c + 1)) i) i = (sumL (I (c + 1)) (tn (I c 1)), maxL (I (c + 1)) (tn (I c 1)), lonL (I (c + 1)) (tn (I c 1))) := by
  intro fuel
  induction fuel with
  | zero => intro i h1 h2; omega
  | succ fuel ih =>
    intro i h1 h2
    have el : A_length x bb (nI i) I = I (c + 1) i := by
      unfold A_length
      rw [tn_nI (by omega), hc]
    have ee : A_eels x bb I = I c 1 := by rw [hc]; rfl
    simp only [L_worth_L18, el, ee]
    by_cases e : tn (I c 1) ≤ i
    · rw [if_pos e]
      have : i = tn (I c 1) := by omega
      rw [← this]
    · rw [if_neg e]
      have hr := ih (i + 1) (by omega) (by omega)
      simp only [sumL, maxL, lonL] at hr
      by_cases e1 : I (c + 1) i < nI 60
      · rw [if_pos e1] at hr ⊢; exact hr
      · rw [if_neg e1] at hr ⊢; exact hr
theorem worth_eq (h : LI B x q I) {yy bb : Int32} (hb : 0 ≤ bb ∧ tn bb < tn (I (x + 1) 10)) : A_worth x yy bb I = L_worth x yy bb I := by
  obtain ⟨a1, a2, a3, a4, a5, a6, a7⟩ := li_b h hb.2
  have e := wl18 (x := x) (I := I) (bb := bb) (yy := yy) rfl a3 10 0 (Nat.zero_le _) (by omega)
  rw [show sumL (I (x + 1 + 11 + 2 * tn bb + 1)) 0 = nI 0 from rfl, show maxL (I (x + 1 + 11 + 2 * tn bb + 1)) 0 = nI 0 from rfl, show lonL (I (x + 1 + 11 + 2 * tn bb + 1)) 0 = 0 from rfl] at e
  unfold L_worth
  rw [e]
  simp only [lt]
  rw [← a4, ← a5, ← a6]
  rfl
theorem worth_nn (h : LI B x q I) {yy bb : Int32} (hb : 0 ≤ bb ∧ tn bb < tn (I (x + 1) 10)) : Op.cmpValue (FP.dcmp (L_worth x yy bb I) (L_worth x yy bb I)) .l = 0 := by
  rw [← worth_eq h hb]
  unfold A_worth Y_valueOf
  rw [show (4636737291354636288 : UInt64) = FP.i2d 100 by decide +kernel, show (4621819117588971520 : UInt64) = FP.i2d 10 by decide +kernel, show (4617315517961601024 : UInt64) = FP.i2d 5 by decide +kernel]
  split
  · exact nn_dd (by decide)
  · split
    · exact nn_dd (by decide)
    · split
      · exact nn_dd (by decide)
      · split
        · exact nn_dd (by decide)
        · exact nn_d0
/-- sums over the barrels -/
def sE (I : ow_I) (x : Nat) : Nat → Int32
  | 0 => 0
  | n + 1 => sE I x n + I (x + 1 + 11 + 2 * n) 1
def sT (I : ow_I) (x : Nat) : Nat → Int32
  | 0 => 0
  | n + 1 => sT I x n + I (x + 1 + 11 + 2 * n) 2
def cSd (I : ow_I) (x : Nat) : Nat → Nat
  | 0 => 0
  | n + 1 => if I (x + 1 + 11 + 2 * n) 7 = nI 2 then cSd I x n + 1 else cSd I x n
theorem mean_l (n : Nat) (hn : tn (I (x + 1) 10) = n) : ∀ fuel i, i ≤ n → n < i + fuel → A_meanLength_L6 x fuel I (sT I x i) (sE I x i) i = if sE I x n = 0 then FP.dconst0 else FP.ddiv (FP.i2d (sT I x n)) (FP.i2d (sE I x n)) := by
  intro fuel
  induction fuel with
  | zero => intro i h1 h2; omega
  | succ fuel ih =>
    intro i h1 h2
    simp only [A_meanLength_L6]
    by_cases e : tn (I (x + 1) 10) ≤ i
    · rw [if_pos e]
      have : i = n := by omega
      rw [this]
    · rw [if_neg e]
      exact ih (i + 1) (by omega) (by omega)
theorem mean_e (h : LI B x q I) : A_meanLength x I = if sE I x (tn (I (x + 1) 10)) = 0 then FP.dconst0 else FP.ddiv (FP.i2d (sT I x (tn (I (x + 1) 10)))) (FP.i2d (sE I x (tn (I (x + 1) 10)))) := by
  have h10 := li_n10 h
  exact mean_l (tn (I (x + 1) 10)) rfl 21 0 (Nat.zero_le _) (by omega)
theorem share_l (n : Nat) (hn : tn (I (x + 1) 10) = n) : ∀ fuel i, i ≤ n → n < i + fuel → A_soldShare_L4 x fuel I (cSd I x i) i = if I (x + 1) 10 = 0 then FP.fconst0 else FP.fdiv (FP.i2f (nI (cSd I x n))) (FP.i2f (I (x + 1) 10)) := by
  intro fuel
  induction fuel with
  | zero => intro i h1 h2; omega
  | succ fuel ih =>
    intro i h1 h2
    simp only [A_soldShare_L4]
    by_cases e : tn (I (x + 1) 10) ≤ i
    · rw [if_pos e]
      have : i = n := by omega
      rw [this]
    · rw [if_neg e]
      have hr := ih (i + 1) (by omega) (by omega)
      simp only [cSd] at hr
      by_cases e1 : I (x + 1 + 11 + 2 * i) 7 = nI 2
      · rw [if_pos e1] at hr ⊢; exact hr
      · rw [if_neg e1] at hr ⊢; exact hr
theorem share_e (h : LI B x q I) : A_soldShare x I = if I (x + 1) 10 = 0 then FP.fconst0 else FP.fdiv (FP.i2f (nI (cSd I x (tn (I (x + 1) 10))))) (FP.i2f (I (x + 1) 10)) := by
  have h10 := li_n10 h
  exact share_l (tn (I (x + 1) 10)) rfl 21 0 (Nat.zero_le _) (by omega)
/-- the keenest: where the loop stands -/
def kst (I : ow_I) (x b i j : Nat) : Prop := (i = 0 ∧ j = 0) ∨ (1 ≤ i ∧ i ≤ 7 ∧ K_keenest_L4 (x + 1) (x + 1 + 11 + 2 * b) (8 - i) I j i = K_keenest (x + 1) (x + 1 + 11 + 2 * b) I)
theorem kst_0 {i j : Nat} (h : LI B x q I) (hk : kst I x b i j) (hi : i = 0) : kst I x b (i + 1) j := by
  rcases hk with ⟨-, h2⟩ | ⟨h1, -⟩
  · subst hi h2
    exact Or.inr ⟨Nat.le_refl _, by decide, rfl⟩
  · omega
theorem kst_s {i j : Nat} (h : LI B x q I) (hb : b < tn (I (x + 1) 10)) (hk : kst I x b i j) (hi : i < tn (I (x + 1) 8)) (hj : j < 100) : (Op.cmpValue (FP.dcmp (L_worth x (nI i) (nI b) I) (L_worth x (nI j) (nI b) I)) .l ≤ 0 → kst I x b (i + 1) j) ∧ (¬ Op.cmpValue (FP.dcmp (L_worth x (nI i) (nI b) I) (L_worth x (nI j) (nI b) I)) .l ≤ 0 → kst I x b (i + 1) i) := by
  have h8 := (mk_nbuy h.2.2.1).2.2
  have h10 := li_n10 h
  rcases hk with ⟨h1, h2⟩ | ⟨h1, h3, h2⟩
  · subst h1 h2
    have := worth_nn h (yy := nI 0) (li_vb h hb)
    rw [this]
    exact ⟨fun _ => Or.inr ⟨Nat.le_refl _, by decide, rfl⟩, fun e => absurd (Int32.le_refl _) e⟩
  · rw [← worth_eq h (li_vb h hb), ← worth_eq h (li_vb h hb)]
    unfold A_worth
    rw [tn_nI (by omega), tn_nI (show b < 2 ^ 31 by omega), tn_nI (show j < 2 ^ 31 by omega)]
    obtain ⟨d, hd⟩ : ∃ d, 8 - i = d + 1 := ⟨7 - i, by omega⟩
    rw [hd] at h2
    simp only [K_keenest_L4] at h2
    rw [if_neg (by omega)] at h2
    constructor
    · intro e
      rw [if_pos e] at h2
      exact Or.inr ⟨by omega, by omega, by rw [show 8 - (i + 1) = d by omega]; exact h2⟩
    · intro e
      rw [if_neg e] at h2
      exact Or.inr ⟨by omega, by omega, by rw [show 8 - (i + 1) = d by omega]; exact h2⟩
theorem kst_e {i j : Nat} (h : LI B x q I) (hb : b < tn (I (x + 1) 10)) (hk : kst I x b i j) (hi : tn (I (x + 1) 8) ≤ i) : A_keenestBuyer x (nI b) I = j := by
  have h8 := (mk_nbuy h.2.2.1).2
  have h10 := li_n10 h
  unfold A_keenestBuyer
  rw [tn_nI (by omega)]
  rcases hk with ⟨h1, h2⟩ | ⟨h1, h3, h2⟩
  · omega
  · rw [← h2]
    obtain ⟨d, hd⟩ : ∃ d, 8 - i = d + 1 := ⟨7 - i, by omega⟩
    rw [hd]
    simp only [K_keenest_L4]
    rw [if_pos hi]
end SF
