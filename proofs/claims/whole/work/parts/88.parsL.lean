/-! verbs of the commands: place 0 of a command's row holds their number -/
def ve_c (p a : Nat) : Bool := decide (p + 6 ≤ a ∧ a < p + 46 ∧ (a - p) % 2 = 0)
def ve_f (Z : Nat → Nat) (p : Nat) (I : ow_I) (V0 : Nat → Nat → Value) : Nat → Nat → Value := fun a k => if k = 0 ∧ ve_c p a = true then gl_vv Z (tn (I a 0)) else V0 a k
theorem ve_ci {p a : Nat} (h : ve_c p a = true) : ∃ i, i < 20 ∧ a = p + 6 + 2 * i := by
  unfold ve_c at h
  have h1 := of_decide_eq_true h
  exact ⟨(a - p - 6) / 2, by omega, by omega⟩
theorem ve_ic {p i : Nat} (h : i < 20) : ve_c p (p + 6 + 2 * i) = true := by
  unfold ve_c
  exact decide_eq_true ⟨by omega, by omega, by omega⟩
theorem ve_eq {Z : Nat → Nat} {p : Nat} {I J : ow_I} {V0 : Nat → Nat → Value} (h : ∀ i, i < 20 → J (p + 6 + 2 * i) 0 = I (p + 6 + 2 * i) 0) : ve_f Z p J V0 = ve_f Z p I V0 := by
  funext a k
  unfold ve_f
  by_cases hc : k = 0 ∧ ve_c p a = true
  · obtain ⟨i, hi, rfl⟩ := ve_ci hc.2
    rw [if_pos hc, if_pos hc, h i hi]
  · rw [if_neg hc, if_neg hc]
theorem ve_at {Z : Nat → Nat} {p i j : Nat} {I : ow_I} {V0 : Nat → Nat → Value} (hi : i < 20) (hj : j < 6) (h : I (p + 6 + 2 * i) 0 = nI j) : ve_f Z p I V0 (p + 6 + 2 * i) 0 = .ref (Z (40 + j)) := by
  unfold ve_f
  rw [if_pos ⟨rfl, ve_ic hi⟩, h, tn_nI (by omega), gl_vl hj]
theorem ve_put {Z : Nat → Nat} {p i j : Nat} {I : ow_I} {V0 : Nat → Nat → Value} (hi : i < 20) (hj : j < 6) : ow_u (ve_f Z p I V0) (p + 6 + 2 * i) 0 (.ref (Z (40 + j))) = ve_f Z p (ow_u I (p + 6 + 2 * i) 0 (nI j)) V0 := by
  funext a k
  unfold ow_u ve_f
  by_cases ha : a = p + 6 + 2 * i
  · subst ha
    by_cases hk : k = 0
    · subst hk
      simp only [ve_ic hi, if_true, and_self, if_pos, tn_nI (show j < 2 ^ 31 by omega), gl_vl hj]
    · simp only [if_true, if_neg hk, hk, false_and, if_false]
  · simp only [if_neg ha]
theorem ow_hV {S : Nat → Option ow_Sh} {I : ow_I} {V V2 : Nat → Nat → Value} {z : Nat} (h : V = V2) : ((S, I, V, z) : ow_H) = (S, I, V2, z) := by rw [h]
theorem fwv_3_0 : ∃ r : vw_C, ow_cl[3]? = some r ∧ (r.2.1 0).2.2.2 = false ∧ parseFieldDescriptor (r.2.1 0).2.2.1 = some (.object "LowWaterAuction$Verb") := ⟨_, rfl, rfl, by decide +kernel⟩
theorem ow_ghost {D : va_G} {U : State} {S : Nat → Option ow_Sh} {I : ow_I} {V : Nat → Nat → Value} {z a k ci : Nat} {κ : Nat → Option (Option Value)} {H : Heap} {x : Int32} (hS : S a = some (.inl (ci, κ))) (hk : κ k = some none) (h : ow_R D U (S, I, V, z) H) : ow_R D U (S, ow_u I a k x, V, z) H := by
  refine ⟨fun b sh hs => ?_, h.2⟩
  have h1 := h.1 b sh hs
  by_cases hb : b = a
  · subst hb
    cases hS.symm.trans hs
    obtain ⟨r, g1, g2⟩ := h1
    refine ⟨r, g1, g2.to (fun j _ => ?_)⟩
    by_cases hj : j = k
    · subst hj
      show ow_v (κ j) (I b j) (V b j) = ow_v (κ j) _ (V b j)
      rw [hk]
      rfl
    · show ow_v (κ j) (I b j) (V b j) = ow_v (κ j) (ow_u I b k x b j) (V b j)
      rw [ow_u_k _ _ _ _ hj]
  · cases sh with
    | inl o =>
      obtain ⟨r, g1, g2⟩ := h1
      exact ⟨r, g1, g2.to (fun j _ => by show ow_v _ (I b j) _ = ow_v _ (ow_u I a k x b j) _; rw [ow_u_a _ _ _ _ hb])⟩
    | inr y =>
      obtain ⟨cA, g1, g2, g3⟩ := h1
      refine ⟨cA, ?_, g2, g3⟩
      have e : (fun j => ow_v (y.2.2 j) (ow_u I a k x b j) (V b j)) = (fun j => ow_v (y.2.2 j) (I b j) (V b j)) := by
        funext j
        rw [ow_u_a _ _ _ _ hb]
      show H[b]? = some (arrV cA y.2.1 (fun j => ow_v (y.2.2 j) (ow_u I a k x b j) (V b j)))
      rw [e]
      exact g1
theorem or_gho {X : ow_X} {cs sl : Nat} {S : Nat → Option ow_Sh} {I : ow_I} {V : Nat → Nat → Value} {z pc a k ci : Nat} {lv : List (Nat × Value)} {st : List Value} {κ : Nat → Option (Option Value)} {x : Int32} (hS : S a = some (.inl (ci, κ))) (hk : κ k = some none) (kk : ow_W X cs sl (S, ow_u I a k x, V, z) pc lv st) : ow_W X cs sl (S, I, V, z) pc lv st := by
  obtain ⟨p, l, e, R, s, m, args, below, meth, c, Q, D, A⟩ := X
  intro H locs ls hR hD hSS hl
  exact kk H locs ls (ow_ghost hS hk hR) hD hSS hl
theorem or_verb {X : ow_X} {cs sl : Nat} {S : Nat → Option ow_Sh} {I : ow_I} {V V0 : Nat → Nat → Value} {z pc p i j idx nL : Nat} {lv : List (Nat × Value)} {st : List Value} {own : String} {cc : ByteArray} {R0 : Room} {Z : Nat → Nat} (E : ow_E X own cc nL R0) (f : ow_fl own idx 3 0) (fw : ∃ r : vw_C, ow_cl[3]? = some r ∧ (r.2.1 0).2.2.2 = false ∧ parseFieldDescriptor (r.2.1 0).2.2.1 = some (.object "LowWaterAuction$Verb")) (d : decode cc pc = .ok (.putfield idx, 3)) (hS : ps_S S p) (hi : i < 20) (hj : j < 6) (hW : V = ve_f Z p I V0)
    (kk : ow_W X cs sl (S, ow_u I (p + 6 + 2 * i) 0 (nI j), ve_f Z p (ow_u I (p + 6 + 2 * i) 0 (nI j)) V0, z) (pc + 3) lv st) : ow_W X cs sl (S, I, V, z) pc lv (.ref (Z (40 + j)) :: .ref (p + 6 + 2 * i) :: st) := by
  have hc := (hS.2.2.2.2 i hi).1
  refine or_putV (h := (S, I, V, z)) E f _ fw rfl rfl d hc rfl ?_
  refine or_gho (k := 0) (x := nI j) hc rfl ?_
  rw [hW]
  show ow_W X cs sl (S, ow_u I (p + 6 + 2 * i) 0 (nI j), ow_u (ve_f Z p I V0) (p + 6 + 2 * i) 0 (.ref (Z (40 + j))), z) (pc + 3) lv st
  rw [ve_put hi hj]
  exact kk
theorem fl_7_68 : ow_fl RX7 68 3 0 := ⟨_, rfl, by decide, ow_T_in 296 (by decide +kernel) (by decide +kernel), ow_ok3⟩
theorem lk_7_166 : ow_lv RX7 166 yX7_takeFirst cX7_takeFirst 5 (some .boolean) 3 := ⟨ow_T_in 1162 (by decide +kernel) (by decide +kernel), ow_T_in 1164 (by decide +kernel) (by decide +kernel), ow_T_sel 21 (by decide +kernel) (by decide +kernel), ow_T_in 7 (by decide +kernel) (by decide +kernel), ow_T_in 1165 (by decide +kernel) (by decide +kernel), ⟨by decide +kernel, by decide +kernel, by decide +kernel⟩⟩
theorem lk_7_170 : ow_lv RX7 170 yX7_takeSecond cX7_takeSecond 5 (some .boolean) 3 := ⟨ow_T_in 1166 (by decide +kernel) (by decide +kernel), ow_T_in 1168 (by decide +kernel) (by decide +kernel), ow_T_sel 22 (by decide +kernel) (by decide +kernel), ow_T_in 7 (by decide +kernel) (by decide +kernel), ow_T_in 1169 (by decide +kernel) (by decide +kernel), ⟨by decide +kernel, by decide +kernel, by decide +kernel⟩⟩
theorem wt_1154 : Cond.fieldLink "LowWaterAuction$Parser" 155 "LowWaterAuction$1" "$SwitchMap$LowWaterAuction$Verb" "[I" ∈ ow_T := ow_T_in 1154 (by decide +kernel) (by decide +kernel)
theorem lu_7_160 : ow_lu RX7 160 ⟨"LowWaterAuction$Verb", "ordinal", "()I"⟩ yJx29ce0_ordinal_8abf5 cJx29ce0_ordinal_8abf5 1 (some .int) 0 := ⟨ow_T_in 1156 (by decide +kernel) (by decide +kernel), ow_T_in 1157 (by decide +kernel) (by decide +kernel), ow_T_in 1159 (by decide +kernel) (by decide +kernel), ow_T_in 1160 (by decide +kernel) (by decide +kernel), ow_T_in 10 (by decide +kernel) (by decide +kernel), ow_T_in 1161 (by decide +kernel) (by decide +kernel), rfl, by decide +kernel, by decide +kernel, by decide +kernel⟩
def Q_readNumbers (p : Nat) (c : Nat) (b : Int32) (j : Nat) (I : ow_I) : Bool × ow_I :=
  if nI (gl_sm j) = nI (1 + 0) then lt (Q_takeFirst p c (nI 0) (b - (nI 1)) I) (fun (r1 : Bool × ow_I) => (r1.1, r1.2)) else if nI (gl_sm j) = nI (1 + 1) then lt (Q_takeFirst p c (nI 1) (nI 200) I) (fun (r2 : Bool × ow_I) => (r2.1, r2.2)) else if nI (gl_sm j) = nI (1 + 2) then lt (Q_takeFirst p c (nI 0) (nI 19) I) (fun (r3 : Bool × ow_I) => if r3.1 then lt (Q_takeSecond p c (nI 1) (nI 8) r3.2) (fun (r4 : Bool × ow_I) => if r4.1 then (true, r4.2) else (false, r4.2)) else (false, r3.2)) else if nI (gl_sm j) = nI (1 + 3) then lt (Q_takeFirst p c (nI 0) (b - (nI 1)) I) (fun (r5 : Bool × ow_I) => if r5.1 then lt (Q_takeSecond p c (nI 1) (nI 9999) r5.2) (fun (r6 : Bool × ow_I) => if r6.1 then (true, r6.2) else (false, r6.2)) else (false, r5.2)) else if nI (gl_sm j) = nI (1 + 4) then lt (Q_takeFirst p c (nI 0) (nI 19) I) (fun (r7 : Bool × ow_I) => (r7.1, r7.2)) else lt (Q_readBarrel p c I) (fun (r8 : Bool × ow_I) => (r8.1, r8.2))
set_option maxRecDepth 100000 in
set_option maxHeartbeats 400000 in
theorem cQ_readNumbers {Z : Nat → Nat} {S : Nat → Option ow_Sh} {I : ow_I} {V : Nat → Nat → Value} {z : Nat} {p : Nat} {c : Nat} {b : Int32} {j : Nat} (h_p : ps_S S p) (h_c : cm_S S c) (hi : in_R (I (p + 1))) (hc : c ≠ p + 1 ∧ c + 1 ≠ p + 1) (hv : V c 0 = .ref (Z (40 + j))) (hj : j < 6) : ow_Cx Z yX7_readNumbers cX7_readNumbers 3 (some .boolean) 4 0 0 [.ref p, .ref c, .int b] (S, I, V, z) (ox_s S V z 0 (some (.int (bi ((Q_readNumbers p c b j I).1)))) ((Q_readNumbers p c b j I).2)) := by
  refine ow_Cx.off rfl (Nat.le_of_ble_eq_true rfl) (fun X K E G F hk => ?_)
  have E : ow_E X RX7 cX7_readNumbers 3 (ow_rm 4 0 0) := E
  refine or_lv [(0, .ref p), (1, .ref c), (2, .int b)] rfl ?_
  try dsimp only [Q_readNumbers] at hk
  refine or_gs E (og_3 G 1 rfl) wt_1154 dX7_readNumbers_0 ?_
  refine or_aload_n E rfl dX7_readNumbers_3 ?_
  refine ot_getV E fl_7_68 dX7_readNumbers_4 h_c.1 rfl ?_
  rw [hv]
  refine or_gU0r (cjx29ce0_ordinal_8abf5 (Z := Z) (b := j) hj) E G F lu_7_160 dX7_readNumbers_7 (og_vo (og_2 G hj)) (by decide) (by decide) ⟨(Nat.le_of_ble_eq_true rfl), (Nat.le_of_ble_eq_true rfl)⟩ (Nat.le_of_ble_eq_true rfl) (fun _ => ?_) (fun h => absurd h (Nat.lt_irrefl 0))
  refine or_gia (j := j) E (og_9 G) hj (by decide) dX7_readNumbers_10 ?_
  refine or_tab5 (lo := 1) 44 54 64 92 122 131 E dX7_readNumbers_11 (by decide) rfl rfl rfl rfl rfl rfl (fun q11_0 => ?_) (fun q11_0 q11_1 => ?_) (fun q11_0 q11_1 q11_2 => ?_) (fun q11_0 q11_1 q11_2 q11_3 => ?_) (fun q11_0 q11_1 q11_2 q11_3 q11_4 => ?_) (fun q11_0 q11_1 q11_2 q11_3 q11_4 => ?_)
  · replace hk := ite_p (P := fun r : Bool × ow_I => ox_e K S V z 0 (some (.int (bi ((r).1)))) ((r).2)) q11_0 hk
    refine or_aload_n E rfl dX7_readNumbers_44 ?_
    refine or_aload_n E rfl dX7_readNumbers_45 ?_
    refine or_iconst (v := nI 0) E rfl dX7_readNumbers_46 ?_
    refine or_iload_n E rfl dX7_readNumbers_47 ?_
    refine or_iconst (v := nI 1) E rfl dX7_readNumbers_48 ?_
    refine or_isub E dX7_readNumbers_49 ?_
    refine or_cV3r (cQ_takeFirst  h_p h_c hi) E lk_7_166 dX7_readNumbers_50 h_p.1 rfl rfl (by decide) (by decide) ⟨(Nat.le_of_ble_eq_true rfl), (Nat.le_of_ble_eq_true rfl)⟩ (Nat.le_of_ble_eq_true rfl) ?_
    obtain ⟨r1, hr1⟩ : ∃ y_ : Bool × ow_I, y_ = Q_takeFirst p c (nI 0) (b - (nI 1)) I := ⟨_, rfl⟩
    replace hk := lt_k (P := fun r : Bool × ow_I => ox_e K S V z 0 (some (.int (bi ((r).1)))) ((r).2)) hr1 hk
    refine or_nmZ hr1 ?_
    try dsimp only at hk
    exact or_xr E F (fun X' E' F' => or_zret E' F' dX7_readNumbers_53 (Nat.le_of_ble_eq_true rfl) (Nat.le_of_ble_eq_true rfl) (bi_nar _) (hk.1 rfl))
  · replace hk := ite_n (P := fun r : Bool × ow_I => ox_e K S V z 0 (some (.int (bi ((r).1)))) ((r).2)) q11_0 hk; replace hk := ite_p (P := fun r : Bool × ow_I => ox_e K S V z 0 (some (.int (bi ((r).1)))) ((r).2)) q11_1 hk
    refine or_aload_n E rfl dX7_readNumbers_54 ?_
    refine or_aload_n E rfl dX7_readNumbers_55 ?_
    refine or_iconst (v := nI 1) E rfl dX7_readNumbers_56 ?_
    refine or_sipush (v := nI 200) E rfl dX7_readNumbers_57 ?_
    refine or_cV3r (cQ_takeFirst  h_p h_c hi) E lk_7_166 dX7_readNumbers_60 h_p.1 rfl rfl (by decide) (by decide) ⟨(Nat.le_of_ble_eq_true rfl), (Nat.le_of_ble_eq_true rfl)⟩ (Nat.le_of_ble_eq_true rfl) ?_
    obtain ⟨r2, hr2⟩ : ∃ y_ : Bool × ow_I, y_ = Q_takeFirst p c (nI 1) (nI 200) I := ⟨_, rfl⟩
    replace hk := lt_k (P := fun r : Bool × ow_I => ox_e K S V z 0 (some (.int (bi ((r).1)))) ((r).2)) hr2 hk
    refine or_nmZ hr2 ?_
    try dsimp only at hk
    exact or_xr E F (fun X' E' F' => or_zret E' F' dX7_readNumbers_63 (Nat.le_of_ble_eq_true rfl) (Nat.le_of_ble_eq_true rfl) (bi_nar _) (hk.1 rfl))
  · replace hk := ite_n (P := fun r : Bool × ow_I => ox_e K S V z 0 (some (.int (bi ((r).1)))) ((r).2)) q11_0 hk; replace hk := ite_n (P := fun r : Bool × ow_I => ox_e K S V z 0 (some (.int (bi ((r).1)))) ((r).2)) q11_1 hk; replace hk := ite_p (P := fun r : Bool × ow_I => ox_e K S V z 0 (some (.int (bi ((r).1)))) ((r).2)) q11_2 hk
    refine or_aload_n E rfl dX7_readNumbers_64 ?_
    refine or_aload_n E rfl dX7_readNumbers_65 ?_
    refine or_iconst (v := nI 0) E rfl dX7_readNumbers_66 ?_
    refine or_bipush (v := nI 19) E rfl dX7_readNumbers_67 ?_
    refine or_cV3r (cQ_takeFirst  h_p h_c hi) E lk_7_166 dX7_readNumbers_69 h_p.1 rfl rfl (by decide) (by decide) ⟨(Nat.le_of_ble_eq_true rfl), (Nat.le_of_ble_eq_true rfl)⟩ (Nat.le_of_ble_eq_true rfl) ?_
    obtain ⟨r3, hr3⟩ : ∃ y_ : Bool × ow_I, y_ = Q_takeFirst p c (nI 0) (nI 19) I := ⟨_, rfl⟩
    replace hk := lt_k (P := fun r : Bool × ow_I => ox_e K S V z 0 (some (.int (bi ((r).1)))) ((r).2)) hr3 hk
    refine or_nmZ hr3 ?_
    refine or_if_eqZ 90 E dX7_readNumbers_72 rfl (fun q72 => ?_) (fun q72 => ?_)
    · replace hk := ite_n (P := fun r : Bool × ow_I => ox_e K S V z 0 (some (.int (bi ((r).1)))) ((r).2)) (bz_neg q72) hk
      refine or_iconst (v := nI 0) E rfl dX7_readNumbers_90 ?_
      try dsimp only at hk
      exact or_xr E F (fun X' E' F' => or_zret E' F' dX7_readNumbers_91 (Nat.le_of_ble_eq_true rfl) (Nat.le_of_ble_eq_true rfl) (bi_nar false) (hk.1 rfl))
    · replace hk := ite_p (P := fun r : Bool × ow_I => ox_e K S V z 0 (some (.int (bi ((r).1)))) ((r).2)) q72 hk
      refine or_aload_n E rfl dX7_readNumbers_75 ?_
      refine or_aload_n E rfl dX7_readNumbers_76 ?_
      refine or_iconst (v := nI 1) E rfl dX7_readNumbers_77 ?_
      refine or_bipush (v := nI 8) E rfl dX7_readNumbers_78 ?_
      refine or_cV3r (cQ_takeSecond  h_p h_c (by subst hr3; exact (in_tf hi hc.1))) E lk_7_170 dX7_readNumbers_80 h_p.1 rfl rfl (by decide) (by decide) ⟨(Nat.le_of_ble_eq_true rfl), (Nat.le_of_ble_eq_true rfl)⟩ (Nat.le_of_ble_eq_true rfl) ?_
      obtain ⟨r4, hr4⟩ : ∃ y_ : Bool × ow_I, y_ = Q_takeSecond p c (nI 1) (nI 8) r3.2 := ⟨_, rfl⟩
      replace hk := lt_k (P := fun r : Bool × ow_I => ox_e K S V z 0 (some (.int (bi ((r).1)))) ((r).2)) hr4 hk
      refine or_nmZ hr4 ?_
      refine or_if_eqZ 90 E dX7_readNumbers_83 rfl (fun q83 => ?_) (fun q83 => ?_)
      · replace hk := ite_n (P := fun r : Bool × ow_I => ox_e K S V z 0 (some (.int (bi ((r).1)))) ((r).2)) (bz_neg q83) hk
        refine or_iconst (v := nI 0) E rfl dX7_readNumbers_90 ?_
        try dsimp only at hk
        exact or_xr E F (fun X' E' F' => or_zret E' F' dX7_readNumbers_91 (Nat.le_of_ble_eq_true rfl) (Nat.le_of_ble_eq_true rfl) (bi_nar false) (hk.1 rfl))
      · replace hk := ite_p (P := fun r : Bool × ow_I => ox_e K S V z 0 (some (.int (bi ((r).1)))) ((r).2)) q83 hk
        refine or_iconst (v := nI 1) E rfl dX7_readNumbers_86 ?_
        refine or_goto 91 E dX7_readNumbers_87 rfl ?_
        try dsimp only at hk
        exact or_xr E F (fun X' E' F' => or_zret E' F' dX7_readNumbers_91 (Nat.le_of_ble_eq_true rfl) (Nat.le_of_ble_eq_true rfl) (bi_nar true) (hk.1 rfl))
  · replace hk := ite_n (P := fun r : Bool × ow_I => ox_e K S V z 0 (some (.int (bi ((r).1)))) ((r).2)) q11_0 hk; replace hk := ite_n (P := fun r : Bool × ow_I => ox_e K S V z 0 (some (.int (bi ((r).1)))) ((r).2)) q11_1 hk; replace hk := ite_n (P := fun r : Bool × ow_I => ox_e K S V z 0 (some (.int (bi ((r).1)))) ((r).2)) q11_2 hk; replace hk := ite_p (P := fun r : Bool × ow_I => ox_e K S V z 0 (some (.int (bi ((r).1)))) ((r).2)) q11_3 hk
    refine or_aload_n E rfl dX7_readNumbers_92 ?_
    refine or_aload_n E rfl dX7_readNumbers_93 ?_
    refine or_iconst (v := nI 0) E rfl dX7_readNumbers_94 ?_
    refine or_iload_n E rfl dX7_readNumbers_95 ?_
    refine or_iconst (v := nI 1) E rfl dX7_readNumbers_96 ?_
    refine or_isub E dX7_readNumbers_97 ?_
    refine or_cV3r (cQ_takeFirst  h_p h_c hi) E lk_7_166 dX7_readNumbers_98 h_p.1 rfl rfl (by decide) (by decide) ⟨(Nat.le_of_ble_eq_true rfl), (Nat.le_of_ble_eq_true rfl)⟩ (Nat.le_of_ble_eq_true rfl) ?_
    obtain ⟨r5, hr5⟩ : ∃ y_ : Bool × ow_I, y_ = Q_takeFirst p c (nI 0) (b - (nI 1)) I := ⟨_, rfl⟩
    replace hk := lt_k (P := fun r : Bool × ow_I => ox_e K S V z 0 (some (.int (bi ((r).1)))) ((r).2)) hr5 hk
    refine or_nmZ hr5 ?_
    refine or_if_eqZ 120 E dX7_readNumbers_101 rfl (fun q101 => ?_) (fun q101 => ?_)
    · replace hk := ite_n (P := fun r : Bool × ow_I => ox_e K S V z 0 (some (.int (bi ((r).1)))) ((r).2)) (bz_neg q101) hk
      refine or_iconst (v := nI 0) E rfl dX7_readNumbers_120 ?_
      try dsimp only at hk
      exact or_xr E F (fun X' E' F' => or_zret E' F' dX7_readNumbers_121 (Nat.le_of_ble_eq_true rfl) (Nat.le_of_ble_eq_true rfl) (bi_nar false) (hk.1 rfl))
    · replace hk := ite_p (P := fun r : Bool × ow_I => ox_e K S V z 0 (some (.int (bi ((r).1)))) ((r).2)) q101 hk
      refine or_aload_n E rfl dX7_readNumbers_104 ?_
      refine or_aload_n E rfl dX7_readNumbers_105 ?_
      refine or_iconst (v := nI 1) E rfl dX7_readNumbers_106 ?_
      refine or_sipush (v := nI 9999) E rfl dX7_readNumbers_107 ?_
      refine or_cV3r (cQ_takeSecond  h_p h_c (by subst hr5; exact (in_tf hi hc.1))) E lk_7_170 dX7_readNumbers_110 h_p.1 rfl rfl (by decide) (by decide) ⟨(Nat.le_of_ble_eq_true rfl), (Nat.le_of_ble_eq_true rfl)⟩ (Nat.le_of_ble_eq_true rfl) ?_
      obtain ⟨r6, hr6⟩ : ∃ y_ : Bool × ow_I, y_ = Q_takeSecond p c (nI 1) (nI 9999) r5.2 := ⟨_, rfl⟩
      replace hk := lt_k (P := fun r : Bool × ow_I => ox_e K S V z 0 (some (.int (bi ((r).1)))) ((r).2)) hr6 hk
      refine or_nmZ hr6 ?_
      refine or_if_eqZ 120 E dX7_readNumbers_113 rfl (fun q113 => ?_) (fun q113 => ?_)
      · replace hk := ite_n (P := fun r : Bool × ow_I => ox_e K S V z 0 (some (.int (bi ((r).1)))) ((r).2)) (bz_neg q113) hk
        refine or_iconst (v := nI 0) E rfl dX7_readNumbers_120 ?_
        try dsimp only at hk
        exact or_xr E F (fun X' E' F' => or_zret E' F' dX7_readNumbers_121 (Nat.le_of_ble_eq_true rfl) (Nat.le_of_ble_eq_true rfl) (bi_nar false) (hk.1 rfl))
      · replace hk := ite_p (P := fun r : Bool × ow_I => ox_e K S V z 0 (some (.int (bi ((r).1)))) ((r).2)) q113 hk
        refine or_iconst (v := nI 1) E rfl dX7_readNumbers_116 ?_
        refine or_goto 121 E dX7_readNumbers_117 rfl ?_
        try dsimp only at hk
        exact or_xr E F (fun X' E' F' => or_zret E' F' dX7_readNumbers_121 (Nat.le_of_ble_eq_true rfl) (Nat.le_of_ble_eq_true rfl) (bi_nar true) (hk.1 rfl))
  · replace hk := ite_n (P := fun r : Bool × ow_I => ox_e K S V z 0 (some (.int (bi ((r).1)))) ((r).2)) q11_0 hk; replace hk := ite_n (P := fun r : Bool × ow_I => ox_e K S V z 0 (some (.int (bi ((r).1)))) ((r).2)) q11_1 hk; replace hk := ite_n (P := fun r : Bool × ow_I => ox_e K S V z 0 (some (.int (bi ((r).1)))) ((r).2)) q11_2 hk; replace hk := ite_n (P := fun r : Bool × ow_I => ox_e K S V z 0 (some (.int (bi ((r).1)))) ((r).2)) q11_3 hk; replace hk := ite_p (P := fun r : Bool × ow_I => ox_e K S V z 0 (some (.int (bi ((r).1)))) ((r).2)) q11_4 hk
    refine or_aload_n E rfl dX7_readNumbers_122 ?_
    refine or_aload_n E rfl dX7_readNumbers_123 ?_
    refine or_iconst (v := nI 0) E rfl dX7_readNumbers_124 ?_
    refine or_bipush (v := nI 19) E rfl dX7_readNumbers_125 ?_
    refine or_cV3r (cQ_takeFirst  h_p h_c hi) E lk_7_166 dX7_readNumbers_127 h_p.1 rfl rfl (by decide) (by decide) ⟨(Nat.le_of_ble_eq_true rfl), (Nat.le_of_ble_eq_true rfl)⟩ (Nat.le_of_ble_eq_true rfl) ?_
    obtain ⟨r7, hr7⟩ : ∃ y_ : Bool × ow_I, y_ = Q_takeFirst p c (nI 0) (nI 19) I := ⟨_, rfl⟩
    replace hk := lt_k (P := fun r : Bool × ow_I => ox_e K S V z 0 (some (.int (bi ((r).1)))) ((r).2)) hr7 hk
    refine or_nmZ hr7 ?_
    try dsimp only at hk
    exact or_xr E F (fun X' E' F' => or_zret E' F' dX7_readNumbers_130 (Nat.le_of_ble_eq_true rfl) (Nat.le_of_ble_eq_true rfl) (bi_nar _) (hk.1 rfl))
  · replace hk := ite_n (P := fun r : Bool × ow_I => ox_e K S V z 0 (some (.int (bi ((r).1)))) ((r).2)) q11_0 hk; replace hk := ite_n (P := fun r : Bool × ow_I => ox_e K S V z 0 (some (.int (bi ((r).1)))) ((r).2)) q11_1 hk; replace hk := ite_n (P := fun r : Bool × ow_I => ox_e K S V z 0 (some (.int (bi ((r).1)))) ((r).2)) q11_2 hk; replace hk := ite_n (P := fun r : Bool × ow_I => ox_e K S V z 0 (some (.int (bi ((r).1)))) ((r).2)) q11_3 hk; replace hk := ite_n (P := fun r : Bool × ow_I => ox_e K S V z 0 (some (.int (bi ((r).1)))) ((r).2)) q11_4 hk
    refine or_aload_n E rfl dX7_readNumbers_131 ?_
    refine or_aload_n E rfl dX7_readNumbers_132 ?_
    refine or_cV1r (cQ_readBarrel  h_p h_c hi hc) E lk_7_134 dX7_readNumbers_133 h_p.1 rfl rfl (by decide) (by decide) ⟨(Nat.le_of_ble_eq_true rfl), (Nat.le_of_ble_eq_true rfl)⟩ (Nat.le_of_ble_eq_true rfl) ?_
    obtain ⟨r8, hr8⟩ : ∃ y_ : Bool × ow_I, y_ = Q_readBarrel p c I := ⟨_, rfl⟩
    replace hk := lt_k (P := fun r : Bool × ow_I => ox_e K S V z 0 (some (.int (bi ((r).1)))) ((r).2)) hr8 hk
    refine or_nmZ hr8 ?_
    try dsimp only at hk
    exact or_xr E F (fun X' E' F' => or_zret E' F' dX7_readNumbers_136 (Nat.le_of_ble_eq_true rfl) (Nat.le_of_ble_eq_true rfl) (bi_nar _) (hk.1 rfl))
