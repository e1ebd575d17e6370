/-! THE REFERENCE'S CONSTRUCTOR -/
section CAS
variable {X : ow_X} {cs sl : Nat} {S : Nat → Option ow_Sh} {I : ow_I} {V : Nat → Nat → Value} {z : Nat} {pc : Nat} {lv : List (Nat × Value)} {st : List Value} {own : String} {cc : ByteArray} {nL : Nat} {R0 : Room}
theorem ot_cast {a n j : Nat} {x w : Int32} {κ : Nat → Option (Option Value)} (E : ow_E X own cc nL R0) (d : decode cc pc = .ok (.castore, 1)) (hS : S a = some (.inr (.char, n, κ))) (hk : κ j = none) (hx : x = nI j) (hj : j < n) (hn : n < 2 ^ 31) (hw : narrow .char (.int w) = .int w) (k : ow_W X cs sl (S, ow_u I a j w, V, z) (pc + 1) lv st) : ow_W X cs sl (S, I, V, z) pc lv (.int w :: .int x :: .ref a :: st) := by
  obtain ⟨hi, hc⟩ := ow_ix hx hj hn
  obtain ⟨p, l, e, R, s, m, args, below, meth, c, Q, D, A⟩ := X
  obtain ⟨hx0, hb, hown, hts, hK, hA, hml, hR0⟩ := E
  intro H locs ls hR hD hSS hl
  obtain ⟨cA, g1, g2, g3⟩ := hR.1 a _ hS
  refine W.cast hx0 hb g1 (g2 n _) (fun q => by cases q) (by show ¬ (x < 0 ∨ (arrV _ _ _).slots.size ≤ _); rw [arrV_size]; exact hi) rfl rfl d fun H1 e z oq => ?_
  refine k H1 _ ls (hR.wr hS z oq (fun b i hb => ow_u_a _ _ _ _ hb i) (fun _ _ _ => rfl) ⟨cA, ?_, g2, g3⟩) hD (hSS.put z oq (hD a _ hS)) hl
  rw [e, hc, arrV_store]
  congr 2
  funext i
  by_cases hij : i = j
  · subst hij
    show updV _ _ _ _ = ow_v (κ i) (ow_u I a i _ a i) _
    rw [ow_u_s, hk]
    simp only [updV, if_true, ow_v]
    exact hw
  · show updV _ _ _ _ = ow_v (κ i) (ow_u I a j _ a i) _
    rw [ow_u_k _ _ _ _ hij]
    simp [updV, hij]
end CAS
def raw11 : Nat → Option (Option Value) := fun k => match k with
  | 0 => some none
  | 3 => some none
  | 4 => some none
  | 12 => some none
  | 14 => some none
  | 16 => some none
  | 19 => some none
  | _ => none
theorem df_11 : ∀ k, k < 20 → defaultValue (tyX11 k) = ow_v (raw11 k) 0 .null := fun k hk => match k, hk with | 0, _ => rfl | 1, _ => rfl | 2, _ => rfl | 3, _ => rfl | 4, _ => rfl | 5, _ => rfl | 6, _ => rfl | 7, _ => rfl | 8, _ => rfl | 9, _ => rfl | 10, _ => rfl | 11, _ => rfl | 12, _ => rfl | 13, _ => rfl | 14, _ => rfl | 15, _ => rfl | 16, _ => rfl | 17, _ => rfl | 18, _ => rfl | 19, _ => rfl | k + 20, h => absurd h (by omega)
theorem lo_11_1 : ow_lo RX11 1 := ⟨ow_T_in 1602 (by decide +kernel) (by decide +kernel), ow_T_in 41 (by decide +kernel) (by decide +kernel), ow_T_in 42 (by decide +kernel) (by decide +kernel)⟩
theorem ff_11_0 : ∃ r : vw_C, ow_cl[11]? = some r ∧ (r.2.1 0).2.2.2 = true ∧ (r.2.1 0).1 = RX11 ∧ parseFieldDescriptor (r.2.1 0).2.2.1 = some (.array .int) := ⟨_, rfl, rfl, by decide +kernel, by decide +kernel⟩
theorem ff_11_3 : ∃ r : vw_C, ow_cl[11]? = some r ∧ (r.2.1 3).2.2.2 = true ∧ (r.2.1 3).1 = RX11 ∧ parseFieldDescriptor (r.2.1 3).2.2.1 = some (.array .boolean) := ⟨_, rfl, rfl, by decide +kernel, by decide +kernel⟩
theorem ff_11_4 : ∃ r : vw_C, ow_cl[11]? = some r ∧ (r.2.1 4).2.2.2 = true ∧ (r.2.1 4).1 = RX11 ∧ parseFieldDescriptor (r.2.1 4).2.2.1 = some (.array .byte) := ⟨_, rfl, rfl, by decide +kernel, by decide +kernel⟩
theorem ff_11_12 : ∃ r : vw_C, ow_cl[11]? = some r ∧ (r.2.1 12).2.2.2 = true ∧ (r.2.1 12).1 = RX11 ∧ parseFieldDescriptor (r.2.1 12).2.2.1 = some (.array .int) := ⟨_, rfl, rfl, by decide +kernel, by decide +kernel⟩
theorem ff_11_14 : ∃ r : vw_C, ow_cl[11]? = some r ∧ (r.2.1 14).2.2.2 = true ∧ (r.2.1 14).1 = RX11 ∧ parseFieldDescriptor (r.2.1 14).2.2.1 = some (.array .int) := ⟨_, rfl, rfl, by decide +kernel, by decide +kernel⟩
theorem ff_11_16 : ∃ r : vw_C, ow_cl[11]? = some r ∧ (r.2.1 16).2.2.2 = true ∧ (r.2.1 16).1 = RX11 ∧ parseFieldDescriptor (r.2.1 16).2.2.1 = some (.array .byte) := ⟨_, rfl, rfl, by decide +kernel, by decide +kernel⟩
theorem ff_11_19 : ∃ r : vw_C, ow_cl[11]? = some r ∧ (r.2.1 19).2.2.2 = true ∧ (r.2.1 19).1 = RX11 ∧ parseFieldDescriptor (r.2.1 19).2.2.1 = some (.array .char) := ⟨_, rfl, rfl, by decide +kernel, by decide +kernel⟩
def mi_w : List Nat := [109, 97, 114, 107, 101, 116, 32, 32, 98, 117, 121, 101, 114, 32, 32, 32, 98, 97, 114, 114, 101, 108, 32, 32, 110, 111, 100, 32, 32, 32, 32, 32, 119, 97, 105, 116, 32, 32, 32, 32, 115, 112, 108, 105, 116, 32, 32, 32, 112, 97, 121, 32, 32, 32, 32, 32, 119, 105, 116, 104, 100, 114, 97, 119]
/-- the reference's memory before it begins its market -/
def mi_P (m : Nat) (I0 : ow_I) : Prop := (I0 m 1 = 0 ∧ I0 m 2 = 0 ∧ I0 m 5 = 0 ∧ I0 m 6 = 0 ∧ I0 m 7 = -1 ∧ I0 m 15 = 0 ∧ I0 m 17 = 0 ∧ I0 m 18 = 0) ∧ (I0 (m + 2) = fun _ => 0) ∧ ∀ j, j < 64 → I0 (m + 7) j = nI (mi_w.getD j 0)
def mi_1 (m : Nat) (I0 : ow_I) : ow_I := M_addBuyer m (nI 300) (nI 0) (nI 1) (M_addBuyer m (nI 90) (nI 2) (nI 60) (M_addBuyer m (nI 200) (nI 1) (nI 50) (M_beginMarket m (nI 20) (nI 12) (nI 2) (nI 5) (nI 10) I0)))
def mi_2 (m : Nat) (J : ow_I) : ow_I := M_addEel m 0 (nI 30) (M_addEel m 0 (nI 55) (M_addEel m 0 (nI 40) (M_newBarrel m (nI 20) J).2))
def mi_3 (m : Nat) (J : ow_I) : ow_I := M_addEel m 1 (nI 90) (M_addEel m 1 (nI 100) (M_newBarrel m (nI 50) J).2)
def mi_4 (m : Nat) (J : ow_I) : ow_I := M_addEel m 2 (nI 15) (M_newBarrel m (nI 10) J).2
def mi_I (m : Nat) (I0 : ow_I) : ow_I := mi_4 m (mi_3 m (mi_2 m (mi_1 m I0)))
def mi_N (m : Nat) (J : ow_I) (n6 n7 : Nat) (e : Nat → Nat) : Prop := J (m + 1) 6 = nI n6 ∧ J (m + 1) 7 = nI n7 ∧ J (m + 1) 12 = nI n7 ∧ ∀ k, k < 3 → J (m + 1) (66 + 15 * k) = nI (e k)
theorem mi_bm {m : Nat} {a0 a1 a2 a3 a4 : Int32} {I : ow_I} : mi_N m (M_beginMarket m a0 a1 a2 a3 a4 I) 0 0 (fun _ => 0) := by
  refine ⟨?_, ?_, ?_, fun k hk => ?_⟩
  · rw [bm_cells]; rfl
  · rw [bm_cells]; rfl
  · rw [bm_cells]; rfl
  · rw [bm_cells]
    simp (disch := omega) only [if_neg, if_pos, if_true]
    rfl
theorem mi_buy {m n6 n7 : Nat} {e : Nat → Nat} {p s f : Int32} {J : ow_I} (h : mi_N m J n6 n7 e) (h6 : n6 < 6) : mi_N m (M_addBuyer m p s f J) (n6 + 1) n7 e := by
  have q : tn (J (m + 1) 6) = n6 := by rw [h.1, tn_nI (by omega)]
  refine ⟨?_, ?_, ?_, fun k hk => ?_⟩
  · simp (disch := omega) only [M_addBuyer, lt_eq, M_put, u_one, if_neg, if_pos, if_true]
    rw [h.1, nI_add]
  · rw [ab_o (by omega) (by omega)]; exact h.2.1
  · rw [ab_o (by omega) (by omega)]; exact h.2.2.1
  · rw [ab_o (by omega) (by omega)]; exact h.2.2.2 k hk
theorem mi_new {m n6 n7 : Nat} {e : Nat → Nat} {r : Int32} {J : ow_I} (h : mi_N m J n6 n7 e) (h7 : n7 < 3) : mi_N m (M_newBarrel m r J).2 n6 (n7 + 1) (fun k => if k = n7 then 0 else e k) := by
  have q : tn (J (m + 1) 7) = n7 := by rw [h.2.1, tn_nI (by omega)]
  have q2 : tn (J (m + 1) 12) = n7 := by rw [h.2.2.1, tn_nI (by omega)]
  simp (disch := omega) only [mi_N, M_newBarrel, M_enqueue, lt_eq, u_one, M_putBarrel, if_neg, if_pos, if_true, q, q2]
  refine ⟨h.1, by rw [h.2.1, nI_add], by rw [h.2.2.1, nI_add], fun k hk => ?_⟩
  by_cases c : k = n7
  · rw [c]
    simp (disch := omega) only [if_neg, if_pos, if_true, q, q2]
  · simp (disch := omega) only [if_neg, q, q2]
    exact h.2.2.2 k hk
theorem mi_eel {m n6 n7 b : Nat} {e : Nat → Nat} {x : Int32} {J : ow_I} (h : mi_N m J n6 n7 e) (hb : b < 3) (he : e b < 9) : mi_N m (M_addEel m b x J) n6 n7 (fun k => if k = b then e b + 1 else e k) := by
  have q : tn (J (m + 1) (66 + 15 * b)) = e b := by rw [h.2.2.2 b hb, tn_nI (by omega)]
  have q1 : tn (M_ofBarrel m b 0 J) = e b := q
  simp (disch := omega) only [mi_N, M_addEel, lt_eq, u_one, M_putBarrel, if_neg, if_pos, if_true, q1]
  refine ⟨h.1, h.2.1, h.2.2.1, fun k hk => ?_⟩
  by_cases c : k = b
  · rw [c]
    simp (disch := omega) only [if_pos, if_true]
  · simp (disch := omega) only [if_neg]
    exact h.2.2.2 k hk
theorem mi_h6 {m n6 n7 : Nat} {e : Nat → Nat} {J : ow_I} (h : mi_N m J n6 n7 e) (h6 : n6 < 6) : 0 ≤ J (m + 1) 6 ∧ tn (J (m + 1) 6) < 6 := by rw [h.1, tn_nI (by omega)]; exact ⟨nI_ge0 (by omega), h6⟩
theorem mi_h7 {m n6 n7 : Nat} {e : Nat → Nat} {J : ow_I} (h : mi_N m J n6 n7 e) (h7 : n7 < 3) : (0 ≤ J (m + 1) 7 ∧ tn (J (m + 1) 7) < 20) ∧ 0 ≤ J (m + 1) 12 ∧ tn (J (m + 1) 12) < 20 := by rw [h.2.1, h.2.2.1, tn_nI (by omega)]; exact ⟨⟨nI_ge0 (by omega), by omega⟩, nI_ge0 (by omega), by omega⟩
theorem mi_he {m n6 n7 b : Nat} {e : Nat → Nat} {J : ow_I} (h : mi_N m J n6 n7 e) (hb : b < 3) (he : e b < 9) : 0 ≤ M_ofBarrel m b 0 J ∧ tn (M_ofBarrel m b 0 J) < 9 := by
  have q : M_ofBarrel m b 0 J = nI (e b) := h.2.2.2 b hb
  rw [q, tn_nI (by omega)]
  exact ⟨nI_ge0 (by omega), he⟩
section FRZ
variable {X : ow_X} {cs sl : Nat} {S : Nat → Option ow_Sh} {I : ow_I} {V : Nat → Nat → Value} {z : Nat} {pc : Nat} {lv : List (Nat × Value)} {st : List Value}
theorem or_fr (P : (Nat → Option ow_Sh) → ow_I → (Nat → Nat → Value) → Prop) (cs' sl' z' pc' : Nat) (h : P S I V) (e : cs = cs' ∧ sl = sl' ∧ z = z' ∧ pc = pc') (k : ∀ S1 I1 V1, P S1 I1 V1 → ow_W X cs' sl' (S1, I1, V1, z') pc' lv st) : ow_W X cs sl (S, I, V, z) pc lv st := by
  obtain ⟨rfl, rfl, rfl, rfl⟩ := e
  exact k S I V h
end FRZ
set_option maxRecDepth 100000 in
set_option maxHeartbeats 400000 in
theorem cM_init {Z : Nat → Nat} {S : Nat → Option ow_Sh} {I : ow_I} {V : Nat → Nat → Value} {m : Nat} (hS : S m = some (.inl (11, raw11))) (hI : ∀ j, I m j = 0) : ow_Cx Z yX11_init cX11_init 1 none 4 7 5847 [.ref m] (S, I, V, m + 1) (cn_K S I V m (m + 8) (fun S1 I1 _ => md_S S1 m ∧ ∃ I0, I1 = mi_I m I0 ∧ mi_P m I0)) := by
  refine ow_Cx.of rfl (Nat.le_of_ble_eq_true rfl) (fun X E G F => ?_)
  have E : ow_E X RX11 cX11_init 1 (ow_rm 4 7 5847) := E
  refine or_lv [(0, .ref m)] rfl ?_
  refine or_aload_n E rfl dX11_init_0 ?_
  refine or_oinit E lo_11_1 dX11_init_1 (by decide) (Nat.le_of_ble_eq_true rfl) ?_
  refine or_aload_n E rfl dX11_init_4 ?_
  refine or_sipush (v := nI 4810) E rfl dX11_init_5 ?_
  refine or_newa (atype := .int) (N := 4810) (κ := ow_n) E (ow_T_in 102 (by decide +kernel) (by decide +kernel)) rfl (fun _ => rfl) dX11_init_8 (by decide) (by decide) (by omega) (by omega) ?_
  refine ot_putF E F fl_11_7 (.array .int) ff_11_0 rfl rfl dX11_init_10 ((ow_nS_o _ _ (by omega)).trans (hS)) rfl ?_
  refine or_aload_n E rfl dX11_init_13 ?_
  refine or_iconst (v := nI 2) E rfl dX11_init_14 ?_
  refine or_newa (atype := .boolean) (N := 2) (κ := ow_n) E (ow_T_in 285 (by decide +kernel) (by decide +kernel)) rfl (fun _ => rfl) dX11_init_15 (by decide) (by decide) (by omega) (by omega) ?_
  refine ot_putF E F fl_11_13 (.array .boolean) ff_11_3 rfl rfl dX11_init_17 ((ow_nS_o _ _ (by omega)).trans ((ow_nS_o _ _ (by omega)).trans (hS))) rfl ?_
  refine or_aload_n E rfl dX11_init_20 ?_
  refine or_sipush (v := nI 500) E rfl dX11_init_21 ?_
  refine or_newa (atype := .byte) (N := 500) (κ := ow_n) E (ow_T_in 377 (by decide +kernel) (by decide +kernel)) rfl (fun _ => rfl) dX11_init_24 (by decide) (by decide) (by omega) (by omega) ?_
  refine ot_putF E F fl_11_17 (.array .byte) ff_11_4 rfl rfl dX11_init_26 ((ow_nS_o _ _ (by omega)).trans ((ow_nS_o _ _ (by omega)).trans ((ow_nS_o _ _ (by omega)).trans (hS)))) rfl ?_
  refine or_aload_n E rfl dX11_init_29 ?_
  refine or_iconst (v := -1) E rfl dX11_init_30 ?_
  refine ot_putI E fl_11_21 fw_11_7 dX11_init_31 ((ow_nS_o _ _ (by omega)).trans ((ow_nS_o _ _ (by omega)).trans ((ow_nS_o _ _ (by omega)).trans (hS)))) rfl ?_
  refine or_aload_n E rfl dX11_init_34 ?_
  refine or_bipush (v := nI 11) E rfl dX11_init_35 ?_
  refine or_newa (atype := .int) (N := 11) (κ := ow_n) E (ow_T_in 102 (by decide +kernel) (by decide +kernel)) rfl (fun _ => rfl) dX11_init_37 (by decide) (by decide) (by omega) (by omega) ?_
  refine ot_putF E F fl_11_25 (.array .int) ff_11_12 rfl rfl dX11_init_39 ((ow_nS_o _ _ (by omega)).trans ((ow_nS_o _ _ (by omega)).trans ((ow_nS_o _ _ (by omega)).trans ((ow_nS_o _ _ (by omega)).trans (hS))))) rfl ?_
  refine or_aload_n E rfl dX11_init_42 ?_
  refine or_sipush (v := nI 260) E rfl dX11_init_43 ?_
  refine or_newa (atype := .int) (N := 260) (κ := ow_n) E (ow_T_in 102 (by decide +kernel) (by decide +kernel)) rfl (fun _ => rfl) dX11_init_46 (by decide) (by decide) (by omega) (by omega) ?_
  refine ot_putF E F fl_11_28 (.array .int) ff_11_14 rfl rfl dX11_init_48 ((ow_nS_o _ _ (by omega)).trans ((ow_nS_o _ _ (by omega)).trans ((ow_nS_o _ _ (by omega)).trans ((ow_nS_o _ _ (by omega)).trans ((ow_nS_o _ _ (by omega)).trans (hS)))))) rfl ?_
  refine or_aload_n E rfl dX11_init_51 ?_
  refine or_sipush (v := nI 200) E rfl dX11_init_52 ?_
  refine or_newa (atype := .byte) (N := 200) (κ := ow_n) E (ow_T_in 377 (by decide +kernel) (by decide +kernel)) rfl (fun _ => rfl) dX11_init_55 (by decide) (by decide) (by omega) (by omega) ?_
  refine ot_putF E F fl_11_31 (.array .byte) ff_11_16 rfl rfl dX11_init_57 ((ow_nS_o _ _ (by omega)).trans ((ow_nS_o _ _ (by omega)).trans ((ow_nS_o _ _ (by omega)).trans ((ow_nS_o _ _ (by omega)).trans ((ow_nS_o _ _ (by omega)).trans ((ow_nS_o _ _ (by omega)).trans (hS))))))) rfl ?_
  refine or_aload_n E rfl dX11_init_60 ?_
  refine or_bipush (v := nI 64) E rfl dX11_init_61 ?_
  refine or_newa (atype := .char) (N := 64) (κ := ow_n) E (ow_T_in 1696 (by decide +kernel) (by decide +kernel)) rfl (fun _ => rfl) dX11_init_63 (by decide) (by decide) (by omega) (by omega) ?_
  obtain ⟨I0, hI0⟩ : ∃ y_ : ow_I, y_ = ow_nI (ow_nI (ow_nI (ow_nI (ow_u (ow_nI (ow_nI (ow_nI I (m + 1)) (m + 2)) (m + 3)) m 7 (-1)) (m + 4)) (m + 5)) (m + 6)) (m + 7) := ⟨_, rfl⟩
  refine or_nmI hI0 ?_
  have f0 : ∀ j, j < 0 → I0 (m + 7) j = nI (mi_w.getD j 0) := fun j hj => absurd hj (by omega)
  have g0 : ∀ b, b ≠ m + 7 → I0 b = I0 b := fun _ _ => rfl
  refine or_dup E rfl dX11_init_65 ?_
  refine or_iconst (v := nI 0) E rfl dX11_init_66 ?_
  refine or_bipush (v := nI 109) E rfl dX11_init_67 ?_
  refine ot_cast (n := 64) (j := 0) E dX11_init_69 (ow_nS_s _ _ _) rfl rfl (by decide) (by decide) (by decide) ?_
  refine or_dup E rfl dX11_init_70 ?_
  refine or_iconst (v := nI 1) E rfl dX11_init_71 ?_
  refine or_bipush (v := nI 97) E rfl dX11_init_72 ?_
  refine ot_cast (n := 64) (j := 1) E dX11_init_74 (ow_nS_s _ _ _) rfl rfl (by decide) (by decide) (by decide) ?_
  refine or_dup E rfl dX11_init_75 ?_
  refine or_iconst (v := nI 2) E rfl dX11_init_76 ?_
  refine or_bipush (v := nI 114) E rfl dX11_init_77 ?_
  refine ot_cast (n := 64) (j := 2) E dX11_init_79 (ow_nS_s _ _ _) rfl rfl (by decide) (by decide) (by decide) ?_
  refine or_dup E rfl dX11_init_80 ?_
  refine or_iconst (v := nI 3) E rfl dX11_init_81 ?_
  refine or_bipush (v := nI 107) E rfl dX11_init_82 ?_
  refine ot_cast (n := 64) (j := 3) E dX11_init_84 (ow_nS_s _ _ _) rfl rfl (by decide) (by decide) (by decide) ?_
  refine or_dup E rfl dX11_init_85 ?_
  refine or_iconst (v := nI 4) E rfl dX11_init_86 ?_
  refine or_bipush (v := nI 101) E rfl dX11_init_87 ?_
  refine ot_cast (n := 64) (j := 4) E dX11_init_89 (ow_nS_s _ _ _) rfl rfl (by decide) (by decide) (by decide) ?_
  refine or_dup E rfl dX11_init_90 ?_
  refine or_iconst (v := nI 5) E rfl dX11_init_91 ?_
  refine or_bipush (v := nI 116) E rfl dX11_init_92 ?_
  refine ot_cast (n := 64) (j := 5) E dX11_init_94 (ow_nS_s _ _ _) rfl rfl (by decide) (by decide) (by decide) ?_
  refine or_dup E rfl dX11_init_95 ?_
  refine or_bipush (v := nI 6) E rfl dX11_init_96 ?_
  refine or_bipush (v := nI 32) E rfl dX11_init_98 ?_
  refine ot_cast (n := 64) (j := 6) E dX11_init_100 (ow_nS_s _ _ _) rfl rfl (by decide) (by decide) (by decide) ?_
  refine or_dup E rfl dX11_init_101 ?_
  refine or_bipush (v := nI 7) E rfl dX11_init_102 ?_
  refine or_bipush (v := nI 32) E rfl dX11_init_104 ?_
  refine ot_cast (n := 64) (j := 7) E dX11_init_106 (ow_nS_s _ _ _) rfl rfl (by decide) (by decide) (by decide) ?_
  obtain ⟨I1, hI1⟩ : ∃ y_ : ow_I, y_ = ow_u (ow_u (ow_u (ow_u (ow_u (ow_u (ow_u (ow_u I0 (m + 7) 0 (nI 109)) (m + 7) 1 (nI 97)) (m + 7) 2 (nI 114)) (m + 7) 3 (nI 107)) (m + 7) 4 (nI 101)) (m + 7) 5 (nI 116)) (m + 7) 6 (nI 32)) (m + 7) 7 (nI 32) := ⟨_, rfl⟩
  refine or_nmI hI1 ?_
  have f1 : ∀ j, j < 8 → I1 (m + 7) j = nI (mi_w.getD j 0) := by
    intro j hj
    rw [hI1]
    by_cases h : j < 0
    · rw [ow_u_k _ _ _ _ (by omega), ow_u_k _ _ _ _ (by omega), ow_u_k _ _ _ _ (by omega), ow_u_k _ _ _ _ (by omega), ow_u_k _ _ _ _ (by omega), ow_u_k _ _ _ _ (by omega), ow_u_k _ _ _ _ (by omega), ow_u_k _ _ _ _ (by omega)]; exact f0 j h
    · obtain rfl | rfl | rfl | rfl | rfl | rfl | rfl | rfl : j = 0 ∨ j = 1 ∨ j = 2 ∨ j = 3 ∨ j = 4 ∨ j = 5 ∨ j = 6 ∨ j = 7 := by omega
      · rw [ow_u_k _ _ _ _ (by decide), ow_u_k _ _ _ _ (by decide), ow_u_k _ _ _ _ (by decide), ow_u_k _ _ _ _ (by decide), ow_u_k _ _ _ _ (by decide), ow_u_k _ _ _ _ (by decide), ow_u_k _ _ _ _ (by decide), ow_u_s]; rfl
      · rw [ow_u_k _ _ _ _ (by decide), ow_u_k _ _ _ _ (by decide), ow_u_k _ _ _ _ (by decide), ow_u_k _ _ _ _ (by decide), ow_u_k _ _ _ _ (by decide), ow_u_k _ _ _ _ (by decide), ow_u_s]; rfl
      · rw [ow_u_k _ _ _ _ (by decide), ow_u_k _ _ _ _ (by decide), ow_u_k _ _ _ _ (by decide), ow_u_k _ _ _ _ (by decide), ow_u_k _ _ _ _ (by decide), ow_u_s]; rfl
      · rw [ow_u_k _ _ _ _ (by decide), ow_u_k _ _ _ _ (by decide), ow_u_k _ _ _ _ (by decide), ow_u_k _ _ _ _ (by decide), ow_u_s]; rfl
      · rw [ow_u_k _ _ _ _ (by decide), ow_u_k _ _ _ _ (by decide), ow_u_k _ _ _ _ (by decide), ow_u_s]; rfl
      · rw [ow_u_k _ _ _ _ (by decide), ow_u_k _ _ _ _ (by decide), ow_u_s]; rfl
      · rw [ow_u_k _ _ _ _ (by decide), ow_u_s]; rfl
      · rw [ow_u_s]; rfl
  have g1 : ∀ b, b ≠ m + 7 → I1 b = I0 b := by
    intro b hb
    rw [hI1, rr_u hb, rr_u hb, rr_u hb, rr_u hb, rr_u hb, rr_u hb, rr_u hb, rr_u hb]
  refine or_dup E rfl dX11_init_107 ?_
  refine or_bipush (v := nI 8) E rfl dX11_init_108 ?_
  refine or_bipush (v := nI 98) E rfl dX11_init_110 ?_
  refine ot_cast (n := 64) (j := 8) E dX11_init_112 (ow_nS_s _ _ _) rfl rfl (by decide) (by decide) (by decide) ?_
  refine or_dup E rfl dX11_init_113 ?_
  refine or_bipush (v := nI 9) E rfl dX11_init_114 ?_
  refine or_bipush (v := nI 117) E rfl dX11_init_116 ?_
  refine ot_cast (n := 64) (j := 9) E dX11_init_118 (ow_nS_s _ _ _) rfl rfl (by decide) (by decide) (by decide) ?_
  refine or_dup E rfl dX11_init_119 ?_
  refine or_bipush (v := nI 10) E rfl dX11_init_120 ?_
  refine or_bipush (v := nI 121) E rfl dX11_init_122 ?_
  refine ot_cast (n := 64) (j := 10) E dX11_init_124 (ow_nS_s _ _ _) rfl rfl (by decide) (by decide) (by decide) ?_
  refine or_dup E rfl dX11_init_125 ?_
  refine or_bipush (v := nI 11) E rfl dX11_init_126 ?_
  refine or_bipush (v := nI 101) E rfl dX11_init_128 ?_
  refine ot_cast (n := 64) (j := 11) E dX11_init_130 (ow_nS_s _ _ _) rfl rfl (by decide) (by decide) (by decide) ?_
  refine or_dup E rfl dX11_init_131 ?_
  refine or_bipush (v := nI 12) E rfl dX11_init_132 ?_
  refine or_bipush (v := nI 114) E rfl dX11_init_134 ?_
  refine ot_cast (n := 64) (j := 12) E dX11_init_136 (ow_nS_s _ _ _) rfl rfl (by decide) (by decide) (by decide) ?_
  refine or_dup E rfl dX11_init_137 ?_
  refine or_bipush (v := nI 13) E rfl dX11_init_138 ?_
  refine or_bipush (v := nI 32) E rfl dX11_init_140 ?_
  refine ot_cast (n := 64) (j := 13) E dX11_init_142 (ow_nS_s _ _ _) rfl rfl (by decide) (by decide) (by decide) ?_
  refine or_dup E rfl dX11_init_143 ?_
  refine or_bipush (v := nI 14) E rfl dX11_init_144 ?_
  refine or_bipush (v := nI 32) E rfl dX11_init_146 ?_
  refine ot_cast (n := 64) (j := 14) E dX11_init_148 (ow_nS_s _ _ _) rfl rfl (by decide) (by decide) (by decide) ?_
  refine or_dup E rfl dX11_init_149 ?_
  refine or_bipush (v := nI 15) E rfl dX11_init_150 ?_
  refine or_bipush (v := nI 32) E rfl dX11_init_152 ?_
  refine ot_cast (n := 64) (j := 15) E dX11_init_154 (ow_nS_s _ _ _) rfl rfl (by decide) (by decide) (by decide) ?_
  obtain ⟨I2, hI2⟩ : ∃ y_ : ow_I, y_ = ow_u (ow_u (ow_u (ow_u (ow_u (ow_u (ow_u (ow_u I1 (m + 7) 8 (nI 98)) (m + 7) 9 (nI 117)) (m + 7) 10 (nI 121)) (m + 7) 11 (nI 101)) (m + 7) 12 (nI 114)) (m + 7) 13 (nI 32)) (m + 7) 14 (nI 32)) (m + 7) 15 (nI 32) := ⟨_, rfl⟩
  refine or_nmI hI2 ?_
  have f2 : ∀ j, j < 16 → I2 (m + 7) j = nI (mi_w.getD j 0) := by
    intro j hj
    rw [hI2]
    by_cases h : j < 8
    · rw [ow_u_k _ _ _ _ (by omega), ow_u_k _ _ _ _ (by omega), ow_u_k _ _ _ _ (by omega), ow_u_k _ _ _ _ (by omega), ow_u_k _ _ _ _ (by omega), ow_u_k _ _ _ _ (by omega), ow_u_k _ _ _ _ (by omega), ow_u_k _ _ _ _ (by omega)]; exact f1 j h
    · obtain rfl | rfl | rfl | rfl | rfl | rfl | rfl | rfl : j = 8 ∨ j = 9 ∨ j = 10 ∨ j = 11 ∨ j = 12 ∨ j = 13 ∨ j = 14 ∨ j = 15 := by omega
      · rw [ow_u_k _ _ _ _ (by decide), ow_u_k _ _ _ _ (by decide), ow_u_k _ _ _ _ (by decide), ow_u_k _ _ _ _ (by decide), ow_u_k _ _ _ _ (by decide), ow_u_k _ _ _ _ (by decide), ow_u_k _ _ _ _ (by decide), ow_u_s]; rfl
      · rw [ow_u_k _ _ _ _ (by decide), ow_u_k _ _ _ _ (by decide), ow_u_k _ _ _ _ (by decide), ow_u_k _ _ _ _ (by decide), ow_u_k _ _ _ _ (by decide), ow_u_k _ _ _ _ (by decide), ow_u_s]; rfl
      · rw [ow_u_k _ _ _ _ (by decide), ow_u_k _ _ _ _ (by decide), ow_u_k _ _ _ _ (by decide), ow_u_k _ _ _ _ (by decide), ow_u_k _ _ _ _ (by decide), ow_u_s]; rfl
      · rw [ow_u_k _ _ _ _ (by decide), ow_u_k _ _ _ _ (by decide), ow_u_k _ _ _ _ (by decide), ow_u_k _ _ _ _ (by decide), ow_u_s]; rfl
      · rw [ow_u_k _ _ _ _ (by decide), ow_u_k _ _ _ _ (by decide), ow_u_k _ _ _ _ (by decide), ow_u_s]; rfl
      · rw [ow_u_k _ _ _ _ (by decide), ow_u_k _ _ _ _ (by decide), ow_u_s]; rfl
      · rw [ow_u_k _ _ _ _ (by decide), ow_u_s]; rfl
      · rw [ow_u_s]; rfl
  have g2 : ∀ b, b ≠ m + 7 → I2 b = I0 b := by
    intro b hb
    rw [hI2, rr_u hb, rr_u hb, rr_u hb, rr_u hb, rr_u hb, rr_u hb, rr_u hb, rr_u hb]; exact g1 b hb
  refine or_dup E rfl dX11_init_155 ?_
  refine or_bipush (v := nI 16) E rfl dX11_init_156 ?_
  refine or_bipush (v := nI 98) E rfl dX11_init_158 ?_
  refine ot_cast (n := 64) (j := 16) E dX11_init_160 (ow_nS_s _ _ _) rfl rfl (by decide) (by decide) (by decide) ?_
  refine or_dup E rfl dX11_init_161 ?_
  refine or_bipush (v := nI 17) E rfl dX11_init_162 ?_
  refine or_bipush (v := nI 97) E rfl dX11_init_164 ?_
  refine ot_cast (n := 64) (j := 17) E dX11_init_166 (ow_nS_s _ _ _) rfl rfl (by decide) (by decide) (by decide) ?_
  refine or_dup E rfl dX11_init_167 ?_
  refine or_bipush (v := nI 18) E rfl dX11_init_168 ?_
  refine or_bipush (v := nI 114) E rfl dX11_init_170 ?_
  refine ot_cast (n := 64) (j := 18) E dX11_init_172 (ow_nS_s _ _ _) rfl rfl (by decide) (by decide) (by decide) ?_
  refine or_dup E rfl dX11_init_173 ?_
  refine or_bipush (v := nI 19) E rfl dX11_init_174 ?_
  refine or_bipush (v := nI 114) E rfl dX11_init_176 ?_
  refine ot_cast (n := 64) (j := 19) E dX11_init_178 (ow_nS_s _ _ _) rfl rfl (by decide) (by decide) (by decide) ?_
  refine or_dup E rfl dX11_init_179 ?_
  refine or_bipush (v := nI 20) E rfl dX11_init_180 ?_
  refine or_bipush (v := nI 101) E rfl dX11_init_182 ?_
  refine ot_cast (n := 64) (j := 20) E dX11_init_184 (ow_nS_s _ _ _) rfl rfl (by decide) (by decide) (by decide) ?_
  refine or_dup E rfl dX11_init_185 ?_
  refine or_bipush (v := nI 21) E rfl dX11_init_186 ?_
  refine or_bipush (v := nI 108) E rfl dX11_init_188 ?_
  refine ot_cast (n := 64) (j := 21) E dX11_init_190 (ow_nS_s _ _ _) rfl rfl (by decide) (by decide) (by decide) ?_
  refine or_dup E rfl dX11_init_191 ?_
  refine or_bipush (v := nI 22) E rfl dX11_init_192 ?_
  refine or_bipush (v := nI 32) E rfl dX11_init_194 ?_
  refine ot_cast (n := 64) (j := 22) E dX11_init_196 (ow_nS_s _ _ _) rfl rfl (by decide) (by decide) (by decide) ?_
  refine or_dup E rfl dX11_init_197 ?_
  refine or_bipush (v := nI 23) E rfl dX11_init_198 ?_
  refine or_bipush (v := nI 32) E rfl dX11_init_200 ?_
  refine ot_cast (n := 64) (j := 23) E dX11_init_202 (ow_nS_s _ _ _) rfl rfl (by decide) (by decide) (by decide) ?_
  obtain ⟨I3, hI3⟩ : ∃ y_ : ow_I, y_ = ow_u (ow_u (ow_u (ow_u (ow_u (ow_u (ow_u (ow_u I2 (m + 7) 16 (nI 98)) (m + 7) 17 (nI 97)) (m + 7) 18 (nI 114)) (m + 7) 19 (nI 114)) (m + 7) 20 (nI 101)) (m + 7) 21 (nI 108)) (m + 7) 22 (nI 32)) (m + 7) 23 (nI 32) := ⟨_, rfl⟩
  refine or_nmI hI3 ?_
  have f3 : ∀ j, j < 24 → I3 (m + 7) j = nI (mi_w.getD j 0) := by
    intro j hj
    rw [hI3]
    by_cases h : j < 16
    · rw [ow_u_k _ _ _ _ (by omega), ow_u_k _ _ _ _ (by omega), ow_u_k _ _ _ _ (by omega), ow_u_k _ _ _ _ (by omega), ow_u_k _ _ _ _ (by omega), ow_u_k _ _ _ _ (by omega), ow_u_k _ _ _ _ (by omega), ow_u_k _ _ _ _ (by omega)]; exact f2 j h
    · obtain rfl | rfl | rfl | rfl | rfl | rfl | rfl | rfl : j = 16 ∨ j = 17 ∨ j = 18 ∨ j = 19 ∨ j = 20 ∨ j = 21 ∨ j = 22 ∨ j = 23 := by omega
      · rw [ow_u_k _ _ _ _ (by decide), ow_u_k _ _ _ _ (by decide), ow_u_k _ _ _ _ (by decide), ow_u_k _ _ _ _ (by decide), ow_u_k _ _ _ _ (by decide), ow_u_k _ _ _ _ (by decide), ow_u_k _ _ _ _ (by decide), ow_u_s]; rfl
      · rw [ow_u_k _ _ _ _ (by decide), ow_u_k _ _ _ _ (by decide), ow_u_k _ _ _ _ (by decide), ow_u_k _ _ _ _ (by decide), ow_u_k _ _ _ _ (by decide), ow_u_k _ _ _ _ (by decide), ow_u_s]; rfl
      · rw [ow_u_k _ _ _ _ (by decide), ow_u_k _ _ _ _ (by decide), ow_u_k _ _ _ _ (by decide), ow_u_k _ _ _ _ (by decide), ow_u_k _ _ _ _ (by decide), ow_u_s]; rfl
      · rw [ow_u_k _ _ _ _ (by decide), ow_u_k _ _ _ _ (by decide), ow_u_k _ _ _ _ (by decide), ow_u_k _ _ _ _ (by decide), ow_u_s]; rfl
      · rw [ow_u_k _ _ _ _ (by decide), ow_u_k _ _ _ _ (by decide), ow_u_k _ _ _ _ (by decide), ow_u_s]; rfl
      · rw [ow_u_k _ _ _ _ (by decide), ow_u_k _ _ _ _ (by decide), ow_u_s]; rfl
      · rw [ow_u_k _ _ _ _ (by decide), ow_u_s]; rfl
      · rw [ow_u_s]; rfl
  have g3 : ∀ b, b ≠ m + 7 → I3 b = I0 b := by
    intro b hb
    rw [hI3, rr_u hb, rr_u hb, rr_u hb, rr_u hb, rr_u hb, rr_u hb, rr_u hb, rr_u hb]; exact g2 b hb
  refine or_dup E rfl dX11_init_203 ?_
  refine or_bipush (v := nI 24) E rfl dX11_init_204 ?_
  refine or_bipush (v := nI 110) E rfl dX11_init_206 ?_
  refine ot_cast (n := 64) (j := 24) E dX11_init_208 (ow_nS_s _ _ _) rfl rfl (by decide) (by decide) (by decide) ?_
  refine or_dup E rfl dX11_init_209 ?_
  refine or_bipush (v := nI 25) E rfl dX11_init_210 ?_
  refine or_bipush (v := nI 111) E rfl dX11_init_212 ?_
  refine ot_cast (n := 64) (j := 25) E dX11_init_214 (ow_nS_s _ _ _) rfl rfl (by decide) (by decide) (by decide) ?_
  refine or_dup E rfl dX11_init_215 ?_
  refine or_bipush (v := nI 26) E rfl dX11_init_216 ?_
  refine or_bipush (v := nI 100) E rfl dX11_init_218 ?_
  refine ot_cast (n := 64) (j := 26) E dX11_init_220 (ow_nS_s _ _ _) rfl rfl (by decide) (by decide) (by decide) ?_
  refine or_dup E rfl dX11_init_221 ?_
  refine or_bipush (v := nI 27) E rfl dX11_init_222 ?_
  refine or_bipush (v := nI 32) E rfl dX11_init_224 ?_
  refine ot_cast (n := 64) (j := 27) E dX11_init_226 (ow_nS_s _ _ _) rfl rfl (by decide) (by decide) (by decide) ?_
  refine or_dup E rfl dX11_init_227 ?_
  refine or_bipush (v := nI 28) E rfl dX11_init_228 ?_
  refine or_bipush (v := nI 32) E rfl dX11_init_230 ?_
  refine ot_cast (n := 64) (j := 28) E dX11_init_232 (ow_nS_s _ _ _) rfl rfl (by decide) (by decide) (by decide) ?_
  refine or_dup E rfl dX11_init_233 ?_
  refine or_bipush (v := nI 29) E rfl dX11_init_234 ?_
  refine or_bipush (v := nI 32) E rfl dX11_init_236 ?_
  refine ot_cast (n := 64) (j := 29) E dX11_init_238 (ow_nS_s _ _ _) rfl rfl (by decide) (by decide) (by decide) ?_
  refine or_dup E rfl dX11_init_239 ?_
  refine or_bipush (v := nI 30) E rfl dX11_init_240 ?_
  refine or_bipush (v := nI 32) E rfl dX11_init_242 ?_
  refine ot_cast (n := 64) (j := 30) E dX11_init_244 (ow_nS_s _ _ _) rfl rfl (by decide) (by decide) (by decide) ?_
  refine or_dup E rfl dX11_init_245 ?_
  refine or_bipush (v := nI 31) E rfl dX11_init_246 ?_
  refine or_bipush (v := nI 32) E rfl dX11_init_248 ?_
  refine ot_cast (n := 64) (j := 31) E dX11_init_250 (ow_nS_s _ _ _) rfl rfl (by decide) (by decide) (by decide) ?_
  obtain ⟨I4, hI4⟩ : ∃ y_ : ow_I, y_ = ow_u (ow_u (ow_u (ow_u (ow_u (ow_u (ow_u (ow_u I3 (m + 7) 24 (nI 110)) (m + 7) 25 (nI 111)) (m + 7) 26 (nI 100)) (m + 7) 27 (nI 32)) (m + 7) 28 (nI 32)) (m + 7) 29 (nI 32)) (m + 7) 30 (nI 32)) (m + 7) 31 (nI 32) := ⟨_, rfl⟩
  refine or_nmI hI4 ?_
  have f4 : ∀ j, j < 32 → I4 (m + 7) j = nI (mi_w.getD j 0) := by
    intro j hj
    rw [hI4]
    by_cases h : j < 24
    · rw [ow_u_k _ _ _ _ (by omega), ow_u_k _ _ _ _ (by omega), ow_u_k _ _ _ _ (by omega), ow_u_k _ _ _ _ (by omega), ow_u_k _ _ _ _ (by omega), ow_u_k _ _ _ _ (by omega), ow_u_k _ _ _ _ (by omega), ow_u_k _ _ _ _ (by omega)]; exact f3 j h
    · obtain rfl | rfl | rfl | rfl | rfl | rfl | rfl | rfl : j = 24 ∨ j = 25 ∨ j = 26 ∨ j = 27 ∨ j = 28 ∨ j = 29 ∨ j = 30 ∨ j = 31 := by omega
      · rw [ow_u_k _ _ _ _ (by decide), ow_u_k _ _ _ _ (by decide), ow_u_k _ _ _ _ (by decide), ow_u_k _ _ _ _ (by decide), ow_u_k _ _ _ _ (by decide), ow_u_k _ _ _ _ (by decide), ow_u_k _ _ _ _ (by decide), ow_u_s]; rfl
      · rw [ow_u_k _ _ _ _ (by decide), ow_u_k _ _ _ _ (by decide), ow_u_k _ _ _ _ (by decide), ow_u_k _ _ _ _ (by decide), ow_u_k _ _ _ _ (by decide), ow_u_k _ _ _ _ (by decide), ow_u_s]; rfl
      · rw [ow_u_k _ _ _ _ (by decide), ow_u_k _ _ _ _ (by decide), ow_u_k _ _ _ _ (by decide), ow_u_k _ _ _ _ (by decide), ow_u_k _ _ _ _ (by decide), ow_u_s]; rfl
      · rw [ow_u_k _ _ _ _ (by decide), ow_u_k _ _ _ _ (by decide), ow_u_k _ _ _ _ (by decide), ow_u_k _ _ _ _ (by decide), ow_u_s]; rfl
      · rw [ow_u_k _ _ _ _ (by decide), ow_u_k _ _ _ _ (by decide), ow_u_k _ _ _ _ (by decide), ow_u_s]; rfl
      · rw [ow_u_k _ _ _ _ (by decide), ow_u_k _ _ _ _ (by decide), ow_u_s]; rfl
      · rw [ow_u_k _ _ _ _ (by decide), ow_u_s]; rfl
      · rw [ow_u_s]; rfl
  have g4 : ∀ b, b ≠ m + 7 → I4 b = I0 b := by
    intro b hb
    rw [hI4, rr_u hb, rr_u hb, rr_u hb, rr_u hb, rr_u hb, rr_u hb, rr_u hb, rr_u hb]; exact g3 b hb
  refine or_dup E rfl dX11_init_251 ?_
  refine or_bipush (v := nI 32) E rfl dX11_init_252 ?_
  refine or_bipush (v := nI 119) E rfl dX11_init_254 ?_
  refine ot_cast (n := 64) (j := 32) E dX11_init_256 (ow_nS_s _ _ _) rfl rfl (by decide) (by decide) (by decide) ?_
  refine or_dup E rfl dX11_init_257 ?_
  refine or_bipush (v := nI 33) E rfl dX11_init_258 ?_
  refine or_bipush (v := nI 97) E rfl dX11_init_260 ?_
  refine ot_cast (n := 64) (j := 33) E dX11_init_262 (ow_nS_s _ _ _) rfl rfl (by decide) (by decide) (by decide) ?_
  refine or_dup E rfl dX11_init_263 ?_
  refine or_bipush (v := nI 34) E rfl dX11_init_264 ?_
  refine or_bipush (v := nI 105) E rfl dX11_init_266 ?_
  refine ot_cast (n := 64) (j := 34) E dX11_init_268 (ow_nS_s _ _ _) rfl rfl (by decide) (by decide) (by decide) ?_
  refine or_dup E rfl dX11_init_269 ?_
  refine or_bipush (v := nI 35) E rfl dX11_init_270 ?_
  refine or_bipush (v := nI 116) E rfl dX11_init_272 ?_
  refine ot_cast (n := 64) (j := 35) E dX11_init_274 (ow_nS_s _ _ _) rfl rfl (by decide) (by decide) (by decide) ?_
  refine or_dup E rfl dX11_init_275 ?_
  refine or_bipush (v := nI 36) E rfl dX11_init_276 ?_
  refine or_bipush (v := nI 32) E rfl dX11_init_278 ?_
  refine ot_cast (n := 64) (j := 36) E dX11_init_280 (ow_nS_s _ _ _) rfl rfl (by decide) (by decide) (by decide) ?_
  refine or_dup E rfl dX11_init_281 ?_
  refine or_bipush (v := nI 37) E rfl dX11_init_282 ?_
  refine or_bipush (v := nI 32) E rfl dX11_init_284 ?_
  refine ot_cast (n := 64) (j := 37) E dX11_init_286 (ow_nS_s _ _ _) rfl rfl (by decide) (by decide) (by decide) ?_
  refine or_dup E rfl dX11_init_287 ?_
  refine or_bipush (v := nI 38) E rfl dX11_init_288 ?_
  refine or_bipush (v := nI 32) E rfl dX11_init_290 ?_
  refine ot_cast (n := 64) (j := 38) E dX11_init_292 (ow_nS_s _ _ _) rfl rfl (by decide) (by decide) (by decide) ?_
  refine or_dup E rfl dX11_init_293 ?_
  refine or_bipush (v := nI 39) E rfl dX11_init_294 ?_
  refine or_bipush (v := nI 32) E rfl dX11_init_296 ?_
  refine ot_cast (n := 64) (j := 39) E dX11_init_298 (ow_nS_s _ _ _) rfl rfl (by decide) (by decide) (by decide) ?_
  obtain ⟨I5, hI5⟩ : ∃ y_ : ow_I, y_ = ow_u (ow_u (ow_u (ow_u (ow_u (ow_u (ow_u (ow_u I4 (m + 7) 32 (nI 119)) (m + 7) 33 (nI 97)) (m + 7) 34 (nI 105)) (m + 7) 35 (nI 116)) (m + 7) 36 (nI 32)) (m + 7) 37 (nI 32)) (m + 7) 38 (nI 32)) (m + 7) 39 (nI 32) := ⟨_, rfl⟩
  refine or_nmI hI5 ?_
  have f5 : ∀ j, j < 40 → I5 (m + 7) j = nI (mi_w.getD j 0) := by
    intro j hj
    rw [hI5]
    by_cases h : j < 32
    · rw [ow_u_k _ _ _ _ (by omega), ow_u_k _ _ _ _ (by omega), ow_u_k _ _ _ _ (by omega), ow_u_k _ _ _ _ (by omega), ow_u_k _ _ _ _ (by omega), ow_u_k _ _ _ _ (by omega), ow_u_k _ _ _ _ (by omega), ow_u_k _ _ _ _ (by omega)]; exact f4 j h
    · obtain rfl | rfl | rfl | rfl | rfl | rfl | rfl | rfl : j = 32 ∨ j = 33 ∨ j = 34 ∨ j = 35 ∨ j = 36 ∨ j = 37 ∨ j = 38 ∨ j = 39 := by omega
      · rw [ow_u_k _ _ _ _ (by decide), ow_u_k _ _ _ _ (by decide), ow_u_k _ _ _ _ (by decide), ow_u_k _ _ _ _ (by decide), ow_u_k _ _ _ _ (by decide), ow_u_k _ _ _ _ (by decide), ow_u_k _ _ _ _ (by decide), ow_u_s]; rfl
      · rw [ow_u_k _ _ _ _ (by decide), ow_u_k _ _ _ _ (by decide), ow_u_k _ _ _ _ (by decide), ow_u_k _ _ _ _ (by decide), ow_u_k _ _ _ _ (by decide), ow_u_k _ _ _ _ (by decide), ow_u_s]; rfl
      · rw [ow_u_k _ _ _ _ (by decide), ow_u_k _ _ _ _ (by decide), ow_u_k _ _ _ _ (by decide), ow_u_k _ _ _ _ (by decide), ow_u_k _ _ _ _ (by decide), ow_u_s]; rfl
      · rw [ow_u_k _ _ _ _ (by decide), ow_u_k _ _ _ _ (by decide), ow_u_k _ _ _ _ (by decide), ow_u_k _ _ _ _ (by decide), ow_u_s]; rfl
      · rw [ow_u_k _ _ _ _ (by decide), ow_u_k _ _ _ _ (by decide), ow_u_k _ _ _ _ (by decide), ow_u_s]; rfl
      · rw [ow_u_k _ _ _ _ (by decide), ow_u_k _ _ _ _ (by decide), ow_u_s]; rfl
      · rw [ow_u_k _ _ _ _ (by decide), ow_u_s]; rfl
      · rw [ow_u_s]; rfl
  have g5 : ∀ b, b ≠ m + 7 → I5 b = I0 b := by
    intro b hb
    rw [hI5, rr_u hb, rr_u hb, rr_u hb, rr_u hb, rr_u hb, rr_u hb, rr_u hb, rr_u hb]; exact g4 b hb
  refine or_dup E rfl dX11_init_299 ?_
  refine or_bipush (v := nI 40) E rfl dX11_init_300 ?_
  refine or_bipush (v := nI 115) E rfl dX11_init_302 ?_
  refine ot_cast (n := 64) (j := 40) E dX11_init_304 (ow_nS_s _ _ _) rfl rfl (by decide) (by decide) (by decide) ?_
  refine or_dup E rfl dX11_init_305 ?_
  refine or_bipush (v := nI 41) E rfl dX11_init_306 ?_
  refine or_bipush (v := nI 112) E rfl dX11_init_308 ?_
  refine ot_cast (n := 64) (j := 41) E dX11_init_310 (ow_nS_s _ _ _) rfl rfl (by decide) (by decide) (by decide) ?_
  refine or_dup E rfl dX11_init_311 ?_
  refine or_bipush (v := nI 42) E rfl dX11_init_312 ?_
  refine or_bipush (v := nI 108) E rfl dX11_init_314 ?_
  refine ot_cast (n := 64) (j := 42) E dX11_init_316 (ow_nS_s _ _ _) rfl rfl (by decide) (by decide) (by decide) ?_
  refine or_dup E rfl dX11_init_317 ?_
  refine or_bipush (v := nI 43) E rfl dX11_init_318 ?_
  refine or_bipush (v := nI 105) E rfl dX11_init_320 ?_
  refine ot_cast (n := 64) (j := 43) E dX11_init_322 (ow_nS_s _ _ _) rfl rfl (by decide) (by decide) (by decide) ?_
  refine or_dup E rfl dX11_init_323 ?_
  refine or_bipush (v := nI 44) E rfl dX11_init_324 ?_
  refine or_bipush (v := nI 116) E rfl dX11_init_326 ?_
  refine ot_cast (n := 64) (j := 44) E dX11_init_328 (ow_nS_s _ _ _) rfl rfl (by decide) (by decide) (by decide) ?_
  refine or_dup E rfl dX11_init_329 ?_
  refine or_bipush (v := nI 45) E rfl dX11_init_330 ?_
  refine or_bipush (v := nI 32) E rfl dX11_init_332 ?_
  refine ot_cast (n := 64) (j := 45) E dX11_init_334 (ow_nS_s _ _ _) rfl rfl (by decide) (by decide) (by decide) ?_
  refine or_dup E rfl dX11_init_335 ?_
  refine or_bipush (v := nI 46) E rfl dX11_init_336 ?_
  refine or_bipush (v := nI 32) E rfl dX11_init_338 ?_
  refine ot_cast (n := 64) (j := 46) E dX11_init_340 (ow_nS_s _ _ _) rfl rfl (by decide) (by decide) (by decide) ?_
  refine or_dup E rfl dX11_init_341 ?_
  refine or_bipush (v := nI 47) E rfl dX11_init_342 ?_
  refine or_bipush (v := nI 32) E rfl dX11_init_344 ?_
  refine ot_cast (n := 64) (j := 47) E dX11_init_346 (ow_nS_s _ _ _) rfl rfl (by decide) (by decide) (by decide) ?_
  obtain ⟨I6, hI6⟩ : ∃ y_ : ow_I, y_ = ow_u (ow_u (ow_u (ow_u (ow_u (ow_u (ow_u (ow_u I5 (m + 7) 40 (nI 115)) (m + 7) 41 (nI 112)) (m + 7) 42 (nI 108)) (m + 7) 43 (nI 105)) (m + 7) 44 (nI 116)) (m + 7) 45 (nI 32)) (m + 7) 46 (nI 32)) (m + 7) 47 (nI 32) := ⟨_, rfl⟩
  refine or_nmI hI6 ?_
  have f6 : ∀ j, j < 48 → I6 (m + 7) j = nI (mi_w.getD j 0) := by
    intro j hj
    rw [hI6]
    by_cases h : j < 40
    · rw [ow_u_k _ _ _ _ (by omega), ow_u_k _ _ _ _ (by omega), ow_u_k _ _ _ _ (by omega), ow_u_k _ _ _ _ (by omega), ow_u_k _ _ _ _ (by omega), ow_u_k _ _ _ _ (by omega), ow_u_k _ _ _ _ (by omega), ow_u_k _ _ _ _ (by omega)]; exact f5 j h
    · obtain rfl | rfl | rfl | rfl | rfl | rfl | rfl | rfl : j = 40 ∨ j = 41 ∨ j = 42 ∨ j = 43 ∨ j = 44 ∨ j = 45 ∨ j = 46 ∨ j = 47 := by omega
      · rw [ow_u_k _ _ _ _ (by decide), ow_u_k _ _ _ _ (by decide), ow_u_k _ _ _ _ (by decide), ow_u_k _ _ _ _ (by decide), ow_u_k _ _ _ _ (by decide), ow_u_k _ _ _ _ (by decide), ow_u_k _ _ _ _ (by decide), ow_u_s]; rfl
      · rw [ow_u_k _ _ _ _ (by decide), ow_u_k _ _ _ _ (by decide), ow_u_k _ _ _ _ (by decide), ow_u_k _ _ _ _ (by decide), ow_u_k _ _ _ _ (by decide), ow_u_k _ _ _ _ (by decide), ow_u_s]; rfl
      · rw [ow_u_k _ _ _ _ (by decide), ow_u_k _ _ _ _ (by decide), ow_u_k _ _ _ _ (by decide), ow_u_k _ _ _ _ (by decide), ow_u_k _ _ _ _ (by decide), ow_u_s]; rfl
      · rw [ow_u_k _ _ _ _ (by decide), ow_u_k _ _ _ _ (by decide), ow_u_k _ _ _ _ (by decide), ow_u_k _ _ _ _ (by decide), ow_u_s]; rfl
      · rw [ow_u_k _ _ _ _ (by decide), ow_u_k _ _ _ _ (by decide), ow_u_k _ _ _ _ (by decide), ow_u_s]; rfl
      · rw [ow_u_k _ _ _ _ (by decide), ow_u_k _ _ _ _ (by decide), ow_u_s]; rfl
      · rw [ow_u_k _ _ _ _ (by decide), ow_u_s]; rfl
      · rw [ow_u_s]; rfl
  have g6 : ∀ b, b ≠ m + 7 → I6 b = I0 b := by
    intro b hb
    rw [hI6, rr_u hb, rr_u hb, rr_u hb, rr_u hb, rr_u hb, rr_u hb, rr_u hb, rr_u hb]; exact g5 b hb
  refine or_dup E rfl dX11_init_347 ?_
  refine or_bipush (v := nI 48) E rfl dX11_init_348 ?_
  refine or_bipush (v := nI 112) E rfl dX11_init_350 ?_
  refine ot_cast (n := 64) (j := 48) E dX11_init_352 (ow_nS_s _ _ _) rfl rfl (by decide) (by decide) (by decide) ?_
  refine or_dup E rfl dX11_init_353 ?_
  refine or_bipush (v := nI 49) E rfl dX11_init_354 ?_
  refine or_bipush (v := nI 97) E rfl dX11_init_356 ?_
  refine ot_cast (n := 64) (j := 49) E dX11_init_358 (ow_nS_s _ _ _) rfl rfl (by decide) (by decide) (by decide) ?_
  refine or_dup E rfl dX11_init_359 ?_
  refine or_bipush (v := nI 50) E rfl dX11_init_360 ?_
  refine or_bipush (v := nI 121) E rfl dX11_init_362 ?_
  refine ot_cast (n := 64) (j := 50) E dX11_init_364 (ow_nS_s _ _ _) rfl rfl (by decide) (by decide) (by decide) ?_
  refine or_dup E rfl dX11_init_365 ?_
  refine or_bipush (v := nI 51) E rfl dX11_init_366 ?_
  refine or_bipush (v := nI 32) E rfl dX11_init_368 ?_
  refine ot_cast (n := 64) (j := 51) E dX11_init_370 (ow_nS_s _ _ _) rfl rfl (by decide) (by decide) (by decide) ?_
  refine or_dup E rfl dX11_init_371 ?_
  refine or_bipush (v := nI 52) E rfl dX11_init_372 ?_
  refine or_bipush (v := nI 32) E rfl dX11_init_374 ?_
  refine ot_cast (n := 64) (j := 52) E dX11_init_376 (ow_nS_s _ _ _) rfl rfl (by decide) (by decide) (by decide) ?_
  refine or_dup E rfl dX11_init_377 ?_
  refine or_bipush (v := nI 53) E rfl dX11_init_378 ?_
  refine or_bipush (v := nI 32) E rfl dX11_init_380 ?_
  refine ot_cast (n := 64) (j := 53) E dX11_init_382 (ow_nS_s _ _ _) rfl rfl (by decide) (by decide) (by decide) ?_
  refine or_dup E rfl dX11_init_383 ?_
  refine or_bipush (v := nI 54) E rfl dX11_init_384 ?_
  refine or_bipush (v := nI 32) E rfl dX11_init_386 ?_
  refine ot_cast (n := 64) (j := 54) E dX11_init_388 (ow_nS_s _ _ _) rfl rfl (by decide) (by decide) (by decide) ?_
  refine or_dup E rfl dX11_init_389 ?_
  refine or_bipush (v := nI 55) E rfl dX11_init_390 ?_
  refine or_bipush (v := nI 32) E rfl dX11_init_392 ?_
  refine ot_cast (n := 64) (j := 55) E dX11_init_394 (ow_nS_s _ _ _) rfl rfl (by decide) (by decide) (by decide) ?_
  obtain ⟨I7, hI7⟩ : ∃ y_ : ow_I, y_ = ow_u (ow_u (ow_u (ow_u (ow_u (ow_u (ow_u (ow_u I6 (m + 7) 48 (nI 112)) (m + 7) 49 (nI 97)) (m + 7) 50 (nI 121)) (m + 7) 51 (nI 32)) (m + 7) 52 (nI 32)) (m + 7) 53 (nI 32)) (m + 7) 54 (nI 32)) (m + 7) 55 (nI 32) := ⟨_, rfl⟩
  refine or_nmI hI7 ?_
  have f7 : ∀ j, j < 56 → I7 (m + 7) j = nI (mi_w.getD j 0) := by
    intro j hj
    rw [hI7]
    by_cases h : j < 48
    · rw [ow_u_k _ _ _ _ (by omega), ow_u_k _ _ _ _ (by omega), ow_u_k _ _ _ _ (by omega), ow_u_k _ _ _ _ (by omega), ow_u_k _ _ _ _ (by omega), ow_u_k _ _ _ _ (by omega), ow_u_k _ _ _ _ (by omega), ow_u_k _ _ _ _ (by omega)]; exact f6 j h
    · obtain rfl | rfl | rfl | rfl | rfl | rfl | rfl | rfl : j = 48 ∨ j = 49 ∨ j = 50 ∨ j = 51 ∨ j = 52 ∨ j = 53 ∨ j = 54 ∨ j = 55 := by omega
      · rw [ow_u_k _ _ _ _ (by decide), ow_u_k _ _ _ _ (by decide), ow_u_k _ _ _ _ (by decide), ow_u_k _ _ _ _ (by decide), ow_u_k _ _ _ _ (by decide), ow_u_k _ _ _ _ (by decide), ow_u_k _ _ _ _ (by decide), ow_u_s]; rfl
      · rw [ow_u_k _ _ _ _ (by decide), ow_u_k _ _ _ _ (by decide), ow_u_k _ _ _ _ (by decide), ow_u_k _ _ _ _ (by decide), ow_u_k _ _ _ _ (by decide), ow_u_k _ _ _ _ (by decide), ow_u_s]; rfl
      · rw [ow_u_k _ _ _ _ (by decide), ow_u_k _ _ _ _ (by decide), ow_u_k _ _ _ _ (by decide), ow_u_k _ _ _ _ (by decide), ow_u_k _ _ _ _ (by decide), ow_u_s]; rfl
      · rw [ow_u_k _ _ _ _ (by decide), ow_u_k _ _ _ _ (by decide), ow_u_k _ _ _ _ (by decide), ow_u_k _ _ _ _ (by decide), ow_u_s]; rfl
      · rw [ow_u_k _ _ _ _ (by decide), ow_u_k _ _ _ _ (by decide), ow_u_k _ _ _ _ (by decide), ow_u_s]; rfl
      · rw [ow_u_k _ _ _ _ (by decide), ow_u_k _ _ _ _ (by decide), ow_u_s]; rfl
      · rw [ow_u_k _ _ _ _ (by decide), ow_u_s]; rfl
      · rw [ow_u_s]; rfl
  have g7 : ∀ b, b ≠ m + 7 → I7 b = I0 b := by
    intro b hb
    rw [hI7, rr_u hb, rr_u hb, rr_u hb, rr_u hb, rr_u hb, rr_u hb, rr_u hb, rr_u hb]; exact g6 b hb
  refine or_dup E rfl dX11_init_395 ?_
  refine or_bipush (v := nI 56) E rfl dX11_init_396 ?_
  refine or_bipush (v := nI 119) E rfl dX11_init_398 ?_
  refine ot_cast (n := 64) (j := 56) E dX11_init_400 (ow_nS_s _ _ _) rfl rfl (by decide) (by decide) (by decide) ?_
  refine or_dup E rfl dX11_init_401 ?_
  refine or_bipush (v := nI 57) E rfl dX11_init_402 ?_
  refine or_bipush (v := nI 105) E rfl dX11_init_404 ?_
  refine ot_cast (n := 64) (j := 57) E dX11_init_406 (ow_nS_s _ _ _) rfl rfl (by decide) (by decide) (by decide) ?_
  refine or_dup E rfl dX11_init_407 ?_
  refine or_bipush (v := nI 58) E rfl dX11_init_408 ?_
  refine or_bipush (v := nI 116) E rfl dX11_init_410 ?_
  refine ot_cast (n := 64) (j := 58) E dX11_init_412 (ow_nS_s _ _ _) rfl rfl (by decide) (by decide) (by decide) ?_
  refine or_dup E rfl dX11_init_413 ?_
  refine or_bipush (v := nI 59) E rfl dX11_init_414 ?_
  refine or_bipush (v := nI 104) E rfl dX11_init_416 ?_
  refine ot_cast (n := 64) (j := 59) E dX11_init_418 (ow_nS_s _ _ _) rfl rfl (by decide) (by decide) (by decide) ?_
  refine or_dup E rfl dX11_init_419 ?_
  refine or_bipush (v := nI 60) E rfl dX11_init_420 ?_
  refine or_bipush (v := nI 100) E rfl dX11_init_422 ?_
  refine ot_cast (n := 64) (j := 60) E dX11_init_424 (ow_nS_s _ _ _) rfl rfl (by decide) (by decide) (by decide) ?_
  refine or_dup E rfl dX11_init_425 ?_
  refine or_bipush (v := nI 61) E rfl dX11_init_426 ?_
  refine or_bipush (v := nI 114) E rfl dX11_init_428 ?_
  refine ot_cast (n := 64) (j := 61) E dX11_init_430 (ow_nS_s _ _ _) rfl rfl (by decide) (by decide) (by decide) ?_
  refine or_dup E rfl dX11_init_431 ?_
  refine or_bipush (v := nI 62) E rfl dX11_init_432 ?_
  refine or_bipush (v := nI 97) E rfl dX11_init_434 ?_
  refine ot_cast (n := 64) (j := 62) E dX11_init_436 (ow_nS_s _ _ _) rfl rfl (by decide) (by decide) (by decide) ?_
  refine or_dup E rfl dX11_init_437 ?_
  refine or_bipush (v := nI 63) E rfl dX11_init_438 ?_
  refine or_bipush (v := nI 119) E rfl dX11_init_440 ?_
  refine ot_cast (n := 64) (j := 63) E dX11_init_442 (ow_nS_s _ _ _) rfl rfl (by decide) (by decide) (by decide) ?_
  obtain ⟨I8, hI8⟩ : ∃ y_ : ow_I, y_ = ow_u (ow_u (ow_u (ow_u (ow_u (ow_u (ow_u (ow_u I7 (m + 7) 56 (nI 119)) (m + 7) 57 (nI 105)) (m + 7) 58 (nI 116)) (m + 7) 59 (nI 104)) (m + 7) 60 (nI 100)) (m + 7) 61 (nI 114)) (m + 7) 62 (nI 97)) (m + 7) 63 (nI 119) := ⟨_, rfl⟩
  refine or_nmI hI8 ?_
  have f8 : ∀ j, j < 64 → I8 (m + 7) j = nI (mi_w.getD j 0) := by
    intro j hj
    rw [hI8]
    by_cases h : j < 56
    · rw [ow_u_k _ _ _ _ (by omega), ow_u_k _ _ _ _ (by omega), ow_u_k _ _ _ _ (by omega), ow_u_k _ _ _ _ (by omega), ow_u_k _ _ _ _ (by omega), ow_u_k _ _ _ _ (by omega), ow_u_k _ _ _ _ (by omega), ow_u_k _ _ _ _ (by omega)]; exact f7 j h
    · obtain rfl | rfl | rfl | rfl | rfl | rfl | rfl | rfl : j = 56 ∨ j = 57 ∨ j = 58 ∨ j = 59 ∨ j = 60 ∨ j = 61 ∨ j = 62 ∨ j = 63 := by omega
      · rw [ow_u_k _ _ _ _ (by decide), ow_u_k _ _ _ _ (by decide), ow_u_k _ _ _ _ (by decide), ow_u_k _ _ _ _ (by decide), ow_u_k _ _ _ _ (by decide), ow_u_k _ _ _ _ (by decide), ow_u_k _ _ _ _ (by decide), ow_u_s]; rfl
      · rw [ow_u_k _ _ _ _ (by decide), ow_u_k _ _ _ _ (by decide), ow_u_k _ _ _ _ (by decide), ow_u_k _ _ _ _ (by decide), ow_u_k _ _ _ _ (by decide), ow_u_k _ _ _ _ (by decide), ow_u_s]; rfl
      · rw [ow_u_k _ _ _ _ (by decide), ow_u_k _ _ _ _ (by decide), ow_u_k _ _ _ _ (by decide), ow_u_k _ _ _ _ (by decide), ow_u_k _ _ _ _ (by decide), ow_u_s]; rfl
      · rw [ow_u_k _ _ _ _ (by decide), ow_u_k _ _ _ _ (by decide), ow_u_k _ _ _ _ (by decide), ow_u_k _ _ _ _ (by decide), ow_u_s]; rfl
      · rw [ow_u_k _ _ _ _ (by decide), ow_u_k _ _ _ _ (by decide), ow_u_k _ _ _ _ (by decide), ow_u_s]; rfl
      · rw [ow_u_k _ _ _ _ (by decide), ow_u_k _ _ _ _ (by decide), ow_u_s]; rfl
      · rw [ow_u_k _ _ _ _ (by decide), ow_u_s]; rfl
      · rw [ow_u_s]; rfl
  have g8 : ∀ b, b ≠ m + 7 → I8 b = I0 b := by
    intro b hb
    rw [hI8, rr_u hb, rr_u hb, rr_u hb, rr_u hb, rr_u hb, rr_u hb, rr_u hb, rr_u hb]; exact g7 b hb
  refine ot_putF E F fl_11_34 (.array .char) ff_11_19 rfl rfl dX11_init_443 ((ow_nS_o _ _ (by omega)).trans ((ow_nS_o _ _ (by omega)).trans ((ow_nS_o _ _ (by omega)).trans ((ow_nS_o _ _ (by omega)).trans ((ow_nS_o _ _ (by omega)).trans ((ow_nS_o _ _ (by omega)).trans ((ow_nS_o _ _ (by omega)).trans (hS)))))))) rfl ?_
  refine or_re (ow_re_o (a := m) (κ1 := md_k m) ((ow_nS_o _ _ (by omega)).trans ((ow_nS_o _ _ (by omega)).trans ((ow_nS_o _ _ (by omega)).trans ((ow_nS_o _ _ (by omega)).trans ((ow_nS_o _ _ (by omega)).trans ((ow_nS_o _ _ (by omega)).trans ((ow_nS_o _ _ (by omega)).trans (hS)))))))) (fun k => ?_)) ?_
  · match k with
    | 0 => simp [ow_v, raw11, md_k, ow_u, ow_nV, Nat.add_assoc]
    | 3 => simp [ow_v, raw11, md_k, ow_u, ow_nV, Nat.add_assoc]
    | 4 => simp [ow_v, raw11, md_k, ow_u, ow_nV, Nat.add_assoc]
    | 12 => simp [ow_v, raw11, md_k, ow_u, ow_nV, Nat.add_assoc]
    | 14 => simp [ow_v, raw11, md_k, ow_u, ow_nV, Nat.add_assoc]
    | 16 => simp [ow_v, raw11, md_k, ow_u, ow_nV, Nat.add_assoc]
    | 19 => simp [ow_v, raw11, md_k, ow_u, ow_nV, Nat.add_assoc]
    | 1 => rfl
    | 2 => rfl
    | 5 => rfl
    | 6 => rfl
    | 7 => rfl
    | 8 => rfl
    | 9 => rfl
    | 10 => rfl
    | 11 => rfl
    | 13 => rfl
    | 15 => rfl
    | 17 => rfl
    | 18 => rfl
    | k + 20 => rfl
  refine or_fr (fun S1 I1 V1 => (md_S S1 m ∧ bl S S1 m ∧ bl V V1 m) ∧ bl I I1 m ∧ mi_P m I1) 7 5847 (m + 8) 446 ⟨⟨⟨?_, ?_, ?_, ?_, ?_, ?_, ?_, ?_⟩, ?_, ?_⟩, ?_, ⟨⟨?_, ?_, ?_, ?_, ?_, ?_, ?_, ?_⟩, ?_, ?_⟩⟩ ⟨by omega, by omega, by omega, by omega⟩ (fun S1 I1 V1 hP => ?_)
  · repeat (first | exact ow_nS_s _ _ _ | assumption | refine (ow_nS_o _ _ (by omega)).trans ?_)
  · repeat (first | exact ow_nS_s _ _ _ | assumption | refine (ow_nS_o _ _ (by omega)).trans ?_)
  · repeat (first | exact ow_nS_s _ _ _ | assumption | refine (ow_nS_o _ _ (by omega)).trans ?_)
  · repeat (first | exact ow_nS_s _ _ _ | assumption | refine (ow_nS_o _ _ (by omega)).trans ?_)
  · repeat (first | exact ow_nS_s _ _ _ | assumption | refine (ow_nS_o _ _ (by omega)).trans ?_)
  · repeat (first | exact ow_nS_s _ _ _ | assumption | refine (ow_nS_o _ _ (by omega)).trans ?_)
  · repeat (first | exact ow_nS_s _ _ _ | assumption | refine (ow_nS_o _ _ (by omega)).trans ?_)
  · repeat (first | exact ow_nS_s _ _ _ | assumption | refine (ow_nS_o _ _ (by omega)).trans ?_)
  · repeat (first | exact bl.rf | assumption | refine bl.nS ?_ (by omega) | refine bl.nI ?_ (by omega) | refine bl.nV ?_ (by omega) | refine bl.u ?_ (by omega))
  · repeat (first | exact bl.rf | assumption | refine bl.nS ?_ (by omega) | refine bl.nI ?_ (by omega) | refine bl.nV ?_ (by omega) | refine bl.u ?_ (by omega))
  · intro b hb
    rw [g8 b (by omega), hI0]
    simp (disch := omega) only [ow_nI_o, rr_u]
  · rw [g8 m (by omega), hI0]
    simp [ow_u, ow_nI, hI, Nat.add_assoc]
  · rw [g8 m (by omega), hI0]
    simp [ow_u, ow_nI, hI, Nat.add_assoc]
  · rw [g8 m (by omega), hI0]
    simp [ow_u, ow_nI, hI, Nat.add_assoc]
  · rw [g8 m (by omega), hI0]
    simp [ow_u, ow_nI, hI, Nat.add_assoc]
  · rw [g8 m (by omega), hI0]
    simp [ow_u, ow_nI, hI, Nat.add_assoc]
  · rw [g8 m (by omega), hI0]
    simp [ow_u, ow_nI, hI, Nat.add_assoc]
  · rw [g8 m (by omega), hI0]
    simp [ow_u, ow_nI, hI, Nat.add_assoc]
  · rw [g8 m (by omega), hI0]
    simp [ow_u, ow_nI, hI, Nat.add_assoc]
  · rw [g8 (m + 2) (by omega), hI0]
    funext j
    simp [ow_u, ow_nI, Nat.add_assoc]
  · exact f8
  clear hI0 hI1 hI2 hI3 hI4 hI5 hI6 hI7 hI8 f0 f1 f2 f3 f4 f5 f6 f7 f8 g0 g1 g2 g3 g4 g5 g6 g7 g8
  obtain ⟨⟨hM, z6, z7⟩, z8, hP⟩ := hP
  have N0 := mi_bm (m := m) (a0 := nI 20) (a1 := nI 12) (a2 := nI 2) (a3 := nI 5) (a4 := nI 10) (I := I1)
  refine or_aload_n E rfl dX11_init_446 ?_
  refine or_bipush (v := nI 20) E rfl dX11_init_447 ?_
  refine or_bipush (v := nI 12) E rfl dX11_init_449 ?_
  refine or_iconst (v := nI 2) E rfl dX11_init_451 ?_
  refine or_iconst (v := nI 5) E rfl dX11_init_452 ?_
  refine or_bipush (v := nI 10) E rfl dX11_init_453 ?_
  refine or_cV5v (cM_beginMarket hM) E lk_11_38 dX11_init_455 hM.1 rfl rfl (by decide) (by decide) ⟨Nat.le_refl _, Nat.le_refl _⟩ (Nat.le_of_ble_eq_true rfl) ?_
  have N1 := mi_buy (p := nI 200) (s := nI 1) (f := nI 50) N0 (by decide)
  refine or_aload_n E rfl dX11_init_458 ?_
  refine or_sipush (v := nI 200) E rfl dX11_init_459 ?_
  refine or_iconst (v := nI 1) E rfl dX11_init_462 ?_
  refine or_bipush (v := nI 50) E rfl dX11_init_463 ?_
  refine or_cV3v (cM_addBuyer hM (mi_h6 N0 (by decide)).1 (mi_h6 N0 (by decide)).2) E lk_11_42 dX11_init_465 hM.1 rfl rfl (by decide) (by decide) ⟨Nat.le_refl _, Nat.le_refl _⟩ (Nat.le_of_ble_eq_true rfl) ?_
  have N2 := mi_buy (p := nI 90) (s := nI 2) (f := nI 60) N1 (by decide)
  refine or_aload_n E rfl dX11_init_468 ?_
  refine or_bipush (v := nI 90) E rfl dX11_init_469 ?_
  refine or_iconst (v := nI 2) E rfl dX11_init_471 ?_
  refine or_bipush (v := nI 60) E rfl dX11_init_472 ?_
  refine or_cV3v (cM_addBuyer hM (mi_h6 N1 (by decide)).1 (mi_h6 N1 (by decide)).2) E lk_11_42 dX11_init_474 hM.1 rfl rfl (by decide) (by decide) ⟨Nat.le_refl _, Nat.le_refl _⟩ (Nat.le_of_ble_eq_true rfl) ?_
  have N3 := mi_buy (p := nI 300) (s := nI 0) (f := nI 1) N2 (by decide)
  refine or_aload_n E rfl dX11_init_477 ?_
  refine or_sipush (v := nI 300) E rfl dX11_init_478 ?_
  refine or_iconst (v := nI 0) E rfl dX11_init_481 ?_
  refine or_iconst (v := nI 1) E rfl dX11_init_482 ?_
  refine or_cV3v (cM_addBuyer hM (mi_h6 N2 (by decide)).1 (mi_h6 N2 (by decide)).2) E lk_11_42 dX11_init_483 hM.1 rfl rfl (by decide) (by decide) ⟨Nat.le_refl _, Nat.le_refl _⟩ (Nat.le_of_ble_eq_true rfl) ?_
  have N4 := mi_new (r := nI 20) N3 (by decide)
  refine or_aload_n E rfl dX11_init_486 ?_
  refine or_bipush (v := nI 20) E rfl dX11_init_487 ?_
  refine or_cV1r (cM_newBarrel hM (mi_h7 N3 (by decide)).1.1 (mi_h7 N3 (by decide)).1.2 (mi_h7 N3 (by decide)).2.1 (mi_h7 N3 (by decide)).2.2) E lk_11_46 dX11_init_489 hM.1 rfl rfl (by decide) (by decide) ⟨Nat.le_refl _, Nat.le_refl _⟩ (Nat.le_of_ble_eq_true rfl) ?_
  refine or_pop E rfl dX11_init_492 ?_
  have N5 := mi_eel (b := 0) (x := nI 40) N4 (by decide) (by decide)
  refine or_aload_n E rfl dX11_init_493 ?_
  refine or_iconst (v := nI 0) E rfl dX11_init_494 ?_
  refine or_bipush (v := nI 40) E rfl dX11_init_495 ?_
  refine or_cV2v (cM_addEel (b := 0) hM (by decide) (mi_he N4 (by decide) (by decide)).1 (mi_he N4 (by decide) (by decide)).2) E lk_11_50 dX11_init_497 hM.1 rfl rfl (by decide) (by decide) ⟨Nat.le_refl _, Nat.le_refl _⟩ (Nat.le_of_ble_eq_true rfl) ?_
  have N6 := mi_eel (b := 0) (x := nI 55) N5 (by decide) (by decide)
  refine or_aload_n E rfl dX11_init_500 ?_
  refine or_iconst (v := nI 0) E rfl dX11_init_501 ?_
  refine or_bipush (v := nI 55) E rfl dX11_init_502 ?_
  refine or_cV2v (cM_addEel (b := 0) hM (by decide) (mi_he N5 (by decide) (by decide)).1 (mi_he N5 (by decide) (by decide)).2) E lk_11_50 dX11_init_504 hM.1 rfl rfl (by decide) (by decide) ⟨Nat.le_refl _, Nat.le_refl _⟩ (Nat.le_of_ble_eq_true rfl) ?_
  have N7 := mi_eel (b := 0) (x := nI 30) N6 (by decide) (by decide)
  refine or_aload_n E rfl dX11_init_507 ?_
  refine or_iconst (v := nI 0) E rfl dX11_init_508 ?_
  refine or_bipush (v := nI 30) E rfl dX11_init_509 ?_
  refine or_cV2v (cM_addEel (b := 0) hM (by decide) (mi_he N6 (by decide) (by decide)).1 (mi_he N6 (by decide) (by decide)).2) E lk_11_50 dX11_init_511 hM.1 rfl rfl (by decide) (by decide) ⟨Nat.le_refl _, Nat.le_refl _⟩ (Nat.le_of_ble_eq_true rfl) ?_
  have N8 := mi_new (r := nI 50) N7 (by decide)
  refine or_aload_n E rfl dX11_init_514 ?_
  refine or_bipush (v := nI 50) E rfl dX11_init_515 ?_
  refine or_cV1r (cM_newBarrel hM (mi_h7 N7 (by decide)).1.1 (mi_h7 N7 (by decide)).1.2 (mi_h7 N7 (by decide)).2.1 (mi_h7 N7 (by decide)).2.2) E lk_11_46 dX11_init_517 hM.1 rfl rfl (by decide) (by decide) ⟨Nat.le_refl _, Nat.le_refl _⟩ (Nat.le_of_ble_eq_true rfl) ?_
  refine or_pop E rfl dX11_init_520 ?_
  have N9 := mi_eel (b := 1) (x := nI 100) N8 (by decide) (by decide)
  refine or_aload_n E rfl dX11_init_521 ?_
  refine or_iconst (v := nI 1) E rfl dX11_init_522 ?_
  refine or_bipush (v := nI 100) E rfl dX11_init_523 ?_
  refine or_cV2v (cM_addEel (b := 1) hM (by decide) (mi_he N8 (by decide) (by decide)).1 (mi_he N8 (by decide) (by decide)).2) E lk_11_50 dX11_init_525 hM.1 rfl rfl (by decide) (by decide) ⟨Nat.le_refl _, Nat.le_refl _⟩ (Nat.le_of_ble_eq_true rfl) ?_
  have N10 := mi_eel (b := 1) (x := nI 90) N9 (by decide) (by decide)
  refine or_aload_n E rfl dX11_init_528 ?_
  refine or_iconst (v := nI 1) E rfl dX11_init_529 ?_
  refine or_bipush (v := nI 90) E rfl dX11_init_530 ?_
  refine or_cV2v (cM_addEel (b := 1) hM (by decide) (mi_he N9 (by decide) (by decide)).1 (mi_he N9 (by decide) (by decide)).2) E lk_11_50 dX11_init_532 hM.1 rfl rfl (by decide) (by decide) ⟨Nat.le_refl _, Nat.le_refl _⟩ (Nat.le_of_ble_eq_true rfl) ?_
  have N11 := mi_new (r := nI 10) N10 (by decide)
  refine or_aload_n E rfl dX11_init_535 ?_
  refine or_bipush (v := nI 10) E rfl dX11_init_536 ?_
  refine or_cV1r (cM_newBarrel hM (mi_h7 N10 (by decide)).1.1 (mi_h7 N10 (by decide)).1.2 (mi_h7 N10 (by decide)).2.1 (mi_h7 N10 (by decide)).2.2) E lk_11_46 dX11_init_538 hM.1 rfl rfl (by decide) (by decide) ⟨Nat.le_refl _, Nat.le_refl _⟩ (Nat.le_of_ble_eq_true rfl) ?_
  refine or_pop E rfl dX11_init_541 ?_
  have N12 := mi_eel (b := 2) (x := nI 15) N11 (by decide) (by decide)
  refine or_aload_n E rfl dX11_init_542 ?_
  refine or_iconst (v := nI 2) E rfl dX11_init_543 ?_
  refine or_bipush (v := nI 15) E rfl dX11_init_544 ?_
  refine or_cV2v (cM_addEel (b := 2) hM (by decide) (mi_he N11 (by decide) (by decide)).1 (mi_he N11 (by decide) (by decide)).2) E lk_11_50 dX11_init_546 hM.1 rfl rfl (by decide) (by decide) ⟨Nat.le_refl _, Nat.le_refl _⟩ (Nat.le_of_ble_eq_true rfl) ?_
  have z9 : bl I (mi_I m I1) m := by
    intro b hb
    unfold mi_I mi_4 mi_3 mi_2 mi_1
    rw [rr_addEel (by omega), rr_newBarrel (by omega), rr_addEel (by omega), rr_addEel (by omega), rr_newBarrel (by omega), rr_addEel (by omega), rr_addEel (by omega), rr_addEel (by omega), rr_newBarrel (by omega), rr_addBuyer (by omega), rr_addBuyer (by omega), rr_addBuyer (by omega), rr_begin (by omega)]
    exact z8 b hb
  exact or_xr E F (fun X' E' F' => or_vret E' F' dX11_init_549 (Nat.le_of_ble_eq_true rfl) (Nat.le_of_ble_eq_true rfl) ⟨rfl, rfl, _, _, _, rfl, z6, z9, z7, hM, I1, rfl, hP⟩)
