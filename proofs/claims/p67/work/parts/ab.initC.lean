/-! CONSTRUCTORS WITH LOOPS -/
theorem og_u_imp {X : ow_X} {P Q : State → Prop} (h : og_u X P) (hi : ∀ U, P U → Q U) : og_u X Q := by
  obtain ⟨p, l, e, R, s, m, args, below, meth, c, W, D, A⟩ := X
  exact hi _ h
/-- below n nothing is another -/
def bl {α : Type} (f g : Nat → α) (n : Nat) : Prop := ∀ b, b < n → g b = f b
theorem bl.rf {α : Type} {f : Nat → α} {n : Nat} : bl f f n := fun _ _ => rfl
theorem bl.tr {α : Type} {f g h : Nat → α} {n k : Nat} (p : bl f g n) (q : bl g h k) (hn : n ≤ k) : bl f h n := fun b hb => (q b (by omega)).trans (p b hb)
theorem bl.nS {S S1 : Nat → Option ow_Sh} {n a : Nat} {sh : ow_Sh} (p : bl S S1 n) (hn : n ≤ a) : bl S (ow_nS S1 a sh) n := fun b hb => (ow_nS_o _ _ (by omega)).trans (p b hb)
theorem bl.nI {I I1 : ow_I} {n a : Nat} (p : bl I I1 n) (hn : n ≤ a) : bl I (ow_nI I1 a) n := fun b hb => (ow_nI_o _ (by omega)).trans (p b hb)
theorem bl.nV {V V1 : Nat → Nat → Value} {n a : Nat} {f : Nat → Value} (p : bl V V1 n) (hn : n ≤ a) : bl V (ow_nV V1 a f) n := fun b hb => (ow_nV_o _ _ (by omega)).trans (p b hb)
theorem bl.u {α : Type} {f g : Nat → Nat → α} {n a k : Nat} {x : α} (p : bl f g n) (hn : n ≤ a) : bl f (ow_u g a k x) n := fun b hb => by
  funext j
  rw [ow_u_a _ _ _ _ (by omega), p b hb]
theorem mkS_bl {S S1 : Nat → Option ow_Sh} {a n : Nat} (p : bl S S1 n) (h : mk_S S a) (hn : a + 51 ≤ n) : mk_S S1 a := by
  obtain ⟨h1, h2, h3, h4, h5, h6, h7⟩ := h
  refine ⟨(p _ (by omega)).trans h1, (p _ (by omega)).trans h2, (p _ (by omega)).trans h3, (p _ (by omega)).trans h4, (p _ (by omega)).trans h5, fun i hi => (p _ (by omega)).trans (h6 i hi), fun i hi => ⟨(p _ (by omega)).trans (h7 i hi).1, (p _ (by omega)).trans (h7 i hi).2⟩⟩
/-- the end of a constructor: what stood below n is as it was -/
def cn_K (S : Nat → Option ow_Sh) (I : ow_I) (V : Nat → Nat → Value) (n m : Nat) (P : (Nat → Option ow_Sh) → ow_I → (Nat → Nat → Value) → Prop) : Nat → Option Value → ow_H → Prop := fun c r h1 => c = 0 ∧ r = none ∧ ∃ (S1 : Nat → Option ow_Sh) (I1 : ow_I) (V1 : Nat → Nat → Value), h1 = (S1, I1, V1, m) ∧ bl S S1 n ∧ bl I I1 n ∧ bl V V1 n ∧ P S1 I1 V1
section CR
variable {X : ow_X} {cs sl : Nat} {S : Nat → Option ow_Sh} {I : ow_I} {V : Nat → Nat → Value} {z : Nat} {pc : Nat} {lv : List (Nat × Value)} {st : List Value}
theorem ot_putF {own : String} {cc : ByteArray} {nL : Nat} {R0 : Room} {h0 : ow_H} {K : Nat → Option Value → ow_H → Prop} {mcR msR : Nat} {retR : Option FieldType} {ci k a idx : Nat} {κ : Nat → Option (Option Value)} {x : Value} (E : ow_E X own cc nL R0) (F : ox_F X h0 K mcR msR retR "<init>") (f : ow_fl own idx ci k) (ty1 : FieldType) (fw : ∃ r : vw_C, ow_cl[ci]? = some r ∧ (r.2.1 k).2.2.2 = true ∧ (r.2.1 k).1 = own ∧ parseFieldDescriptor (r.2.1 k).2.2.1 = some ty1) (hna : narrow ty1 x = x) (hfi : fits ty1 x = true) (d : decode cc pc = .ok (.putfield idx, 3)) (hS : S a = some (.inl (ci, κ))) (hk : κ k = some none)
    (kk : ow_W X cs sl (S, I, ow_u V a k x, z) (pc + 3) lv st) : ow_W X cs sl (S, I, V, z) pc lv (x :: .ref a :: st) := or_putF E F f ty1 fw hna hfi d hS hk kk
/-- an array's shape written anew: only its own places count -/
theorem or_reA {a n : Nat} {ty : FieldType} {κ : Nat → Option (Option Value)} (κ1 : Nat → Option (Option Value)) (hS : S a = some (.inr (ty, n, κ))) (hv : ∀ k, k < n → ow_v (κ k) (I a k) (V a k) = ow_v (κ1 k) (I a k) (V a k)) (k : ow_W X cs sl (ow_nS S a (.inr (ty, n, κ1)), I, V, z) pc lv st) : ow_W X cs sl (S, I, V, z) pc lv st := by
  obtain ⟨p, l, e, R, s, m, args, below, meth, c, Q, D, A⟩ := X
  intro H locs ls hR hD hSS hl
  refine k H locs ls ⟨fun b sh1 hs => ?_, hR.2⟩ (fun q sh1 hs => ?_) hSS hl
  · by_cases e : b = a
    · rw [e] at hs ⊢
      have e2 : some (Sum.inr (ty, n, κ1)) = some sh1 := (ow_nS_s S a (.inr (ty, n, κ1))).symm.trans hs
      cases e2
      obtain ⟨cA, r1, r2, r3⟩ := hR.1 a _ hS
      refine ⟨cA, ?_, r2, r3⟩
      have e4 : arrV cA n (fun j => ow_v (κ j) (I a j) (V a j)) = arrV cA n (fun j => ow_v (κ1 j) (I a j) (V a j)) := by
        unfold arrV
        congr 2
        funext j
        exact hv j.val j.isLt
      show H[a]? = some (arrV cA n (fun j => ow_v (κ1 j) (I a j) (V a j)))
      rw [← e4]
      exact r1
    · exact hR.1 b sh1 ((ow_nS_o S _ e).symm.trans hs)
  · by_cases e : q = a
    · rw [e]
      exact hD a _ hS
    · exact hD q sh1 ((ow_nS_o S _ e).symm.trans hs)
end CR
def raw6 : Nat → Option (Option Value) := fun k => match k with
  | 0 => some none
  | 7 => some none
  | 9 => some none
  | 11 => some none
  | _ => none
theorem df_8 : ∀ k, k < 3 → defaultValue (tyX8 k) = ow_v (ow_n k) 0 .null := fun k hk => match k, hk with | 0, _ => rfl | 1, _ => rfl | 2, _ => rfl | k + 3, h => absurd h (by omega)
theorem df_2 : ∀ k, k < 5 → defaultValue (tyX2 k) = ow_v (ow_n k) 0 .null := fun k hk => match k, hk with | 0, _ => rfl | 1, _ => rfl | 2, _ => rfl | 3, _ => rfl | 4, _ => rfl | k + 5, h => absurd h (by omega)
theorem df_1 : ∀ k, k < 10 → defaultValue (tyX1 k) = ow_v (raw0 k) 0 .null := fun k hk => match k, hk with | 0, _ => rfl | 1, _ => rfl | 2, _ => rfl | 3, _ => rfl | 4, _ => rfl | 5, _ => rfl | 6, _ => rfl | 7, _ => rfl | 8, _ => rfl | 9, _ => rfl | k + 10, h => absurd h (by omega)
theorem df_6 : ∀ k, k < 17 → defaultValue (tyX6 k) = ow_v (raw6 k) 0 .null := fun k hk => match k, hk with | 0, _ => rfl | 1, _ => rfl | 2, _ => rfl | 3, _ => rfl | 4, _ => rfl | 5, _ => rfl | 6, _ => rfl | 7, _ => rfl | 8, _ => rfl | 9, _ => rfl | 10, _ => rfl | 11, _ => rfl | 12, _ => rfl | 13, _ => rfl | 14, _ => rfl | 15, _ => rfl | 16, _ => rfl | k + 17, h => absurd h (by omega)
theorem lz_10_9 : ow_lz RX10 9 yX6_init cX6_init 2 0 := ⟨ow_T_in 40 (by decide +kernel) (by decide +kernel), ow_T_in 41 (by decide +kernel) (by decide +kernel), ow_T_in 2 (by decide +kernel) (by decide +kernel), ow_T_in 42 (by decide +kernel) (by decide +kernel), rfl, ⟨by decide, by decide, by decide +kernel⟩⟩
theorem lz_4_17 : ow_lz RX4 17 yX6_init cX6_init 2 0 := ⟨ow_T_in 233 (by decide +kernel) (by decide +kernel), ow_T_in 41 (by decide +kernel) (by decide +kernel), ow_T_in 2 (by decide +kernel) (by decide +kernel), ow_T_in 42 (by decide +kernel) (by decide +kernel), rfl, ⟨by decide, by decide, by decide +kernel⟩⟩
theorem ln_8 : ow_ln yX8_init cX8_init 1 0 := ⟨ow_T_in 47 (by decide +kernel) (by decide +kernel), ow_T_in 3 (by decide +kernel) (by decide +kernel), ow_T_in 48 (by decide +kernel) (by decide +kernel), rfl, ⟨by decide, by decide, by decide +kernel⟩⟩
theorem ln_2 : ow_ln yX2_init cX2_init 1 0 := ⟨ow_T_in 70 (by decide +kernel) (by decide +kernel), ow_T_in 4 (by decide +kernel) (by decide +kernel), ow_T_in 71 (by decide +kernel) (by decide +kernel), rfl, ⟨by decide, by decide, by decide +kernel⟩⟩
theorem ln_1 : ow_ln yX1_init cX1_init 1 0 := ⟨ow_T_in 100 (by decide +kernel) (by decide +kernel), ow_T_in 5 (by decide +kernel) (by decide +kernel), ow_T_in 101 (by decide +kernel) (by decide +kernel), rfl, ⟨by decide, by decide, by decide +kernel⟩⟩
theorem ff_6_0 : ∃ r : vw_C, ow_cl[6]? = some r ∧ (r.2.1 0).2.2.2 = true ∧ (r.2.1 0).1 = RX6 ∧ parseFieldDescriptor (r.2.1 0).2.2.1 = some (.object "LowWaterAuction$Tide") := ⟨_, rfl, rfl, by decide +kernel, by decide +kernel⟩
theorem ff_6_7 : ∃ r : vw_C, ow_cl[6]? = some r ∧ (r.2.1 7).2.2.2 = true ∧ (r.2.1 7).1 = RX6 ∧ parseFieldDescriptor (r.2.1 7).2.2.1 = some (.array (.object "LowWaterAuction$Buyer")) := ⟨_, rfl, rfl, by decide +kernel, by decide +kernel⟩
theorem ff_6_9 : ∃ r : vw_C, ow_cl[6]? = some r ∧ (r.2.1 9).2.2.2 = true ∧ (r.2.1 9).1 = RX6 ∧ parseFieldDescriptor (r.2.1 9).2.2.1 = some (.array (.object "LowWaterAuction$Barrel")) := ⟨_, rfl, rfl, by decide +kernel, by decide +kernel⟩
theorem ff_6_11 : ∃ r : vw_C, ow_cl[6]? = some r ∧ (r.2.1 11).2.2.2 = true ∧ (r.2.1 11).1 = RX6 ∧ parseFieldDescriptor (r.2.1 11).2.2.1 = some (.array .int) := ⟨_, rfl, rfl, by decide +kernel, by decide +kernel⟩
def cnK (S : Nat → Option ow_Sh) (I : ow_I) (V : Nat → Nat → Value) (a i j : Nat) (S1 : Nat → Option ow_Sh) (I1 : ow_I) (V1 : Nat → Nat → Value) : Prop :=
  (bl S S1 a ∧ bl I I1 a ∧ bl V V1 a) ∧ (S1 a = some (.inl (6, mk_k a)) ∧ td_S S1 (a + 1) ∧ S1 (a + 4) = some (.inr (.int, 20, ow_n))) ∧ S1 (a + 3) = some (.inr (.object "LowWaterAuction$Barrel", 20, fun _ => some none)) ∧
  (∀ q, q < i → by_S S1 (a + 5 + q)) ∧ (∀ q, q < j → br_S S1 (a + 11 + 2 * q) ∧ V1 (a + 3) q = .ref (a + 11 + 2 * q) ∧ I1 (a + 11 + 2 * q) = fun _ => 0) ∧ (I1 a 8 = 0 ∧ I1 a 10 = 0 ∧ I1 a 12 = 0 ∧ I1 a 13 = -1 ∧ I1 a 15 = -1)
def cnB (a i : Nat) (S1 : Nat → Option ow_Sh) (V1 : Nat → Nat → Value) : Prop := S1 (a + 2) = some (.inr (.object "LowWaterAuction$Buyer", 6, fun _ => some none)) ∧ ∀ q, q < i → V1 (a + 2) q = .ref (a + 5 + q)
theorem ow_nI_f (I : ow_I) (a : Nat) : ow_nI I a a = fun _ => 0 := funext fun j => ow_nI_s I a j
theorem cn_at {X : ow_X} {cs sl cs' sl' z z' pc : Nat} {S1 : Nat → Option ow_Sh} {I1 : ow_I} {V1 : Nat → Nat → Value} {lv : List (Nat × Value)} {st : List Value} (h : cs' = cs ∧ sl' = sl ∧ z' = z) (k : ow_W X cs sl (S1, I1, V1, z) pc lv st) : ow_W X cs' sl' (S1, I1, V1, z') pc lv st := by
  obtain ⟨rfl, rfl, rfl⟩ := h
  exact k
theorem cn_kV {a : Nat} {I1 : ow_I} (h : I1 a 8 = 0 ∧ I1 a 10 = 0 ∧ I1 a 12 = 0 ∧ I1 a 13 = -1 ∧ I1 a 15 = -1) (hb : ∀ q, q < 20 → I1 (a + 11 + 2 * q) = fun _ => 0) : k_V a I1 := by
  obtain ⟨h1, h2, h3, h4, h5⟩ := h
  refine ⟨by rw [h1]; decide, by rw [h2]; decide, by rw [h3]; decide, Or.inl h4, Or.inl h5, fun i hi => absurd hi (by rw [h3]; exact Nat.not_lt_zero _), fun k hk => by rw [hb k hk]; decide⟩
theorem lo_6_3 : ow_lo RX6 3 := ⟨ow_T_in 43 (by decide +kernel) (by decide +kernel), ow_T_in 36 (by decide +kernel) (by decide +kernel), ow_T_in 37 (by decide +kernel) (by decide +kernel)⟩
set_option maxRecDepth 100000 in
set_option maxHeartbeats 400000 in
theorem cK_init {Z : Nat → Nat} {S : Nat → Option ow_Sh} {I : ow_I} {V : Nat → Nat → Value} {a : Nat} (hS : S a = some (.inl (6, raw6))) (hI : ∀ j, I a j = 0) : ow_Cx Z yX6_init cX6_init 2 none 2 50 459 [.ref a] (S, I, V, a + 1) (cn_K S I V a (a + 51) (fun S1 I1 _ => mk_S S1 a ∧ k_V a I1)) := by
  refine ow_Cx.of rfl (Nat.le_of_ble_eq_true rfl) (fun X E G F => ?_)
  have E : ow_E X RX6 cX6_init 2 (ow_rm 2 50 459) := E
  refine or_lv [(0, .ref a)] rfl ?_
  have L100 : ∀ (n j : Nat) (S1 : Nat → Option ow_Sh) (I1 : ow_I) (V1 : Nat → Nat → Value), j ≤ 20 → 20 - j < n → cnK S I V a 6 j S1 I1 V1 → S1 (a + 2) = some (.inr (.object "LowWaterAuction$Buyer", 6, mk_by a)) → ow_W X (10 + 2 * j) (79 + 19 * j) (S1, I1, V1, a + 11 + 2 * j) 100 [(0, .ref a), (1, .int (nI j))] [] := by
    intro n
    induction n with
    | zero => intro j S1 I1 V1 hj hn; omega
    | succ n ih =>
      intro j S1 I1 V1 hj hn hI1 hB
      obtain ⟨⟨b1, b2, b3⟩, ⟨k1, k2, k3⟩, k4, k5, k6, k7⟩ := hI1
      refine or_iload_n E rfl dX6_init_100 ?_
      refine or_bipush (v := nI 20) E rfl dX6_init_101 ?_
      refine or_icmp_geN 125 E dX6_init_103 rfl (by omega) (by omega) (fun q103 => ?_) (fun q103 => ?_)
      · have hj : j = 20 := by omega
        subst hj
        refine or_reA (mk_br a) k4 (fun k hk => (k6 k hk).2.1) ?_
        exact or_xr E F (fun X' E' F' => or_vret E' F' dX6_init_125 (Nat.le_of_ble_eq_true rfl) (Nat.le_of_ble_eq_true rfl) ⟨rfl, rfl, _, _, _, rfl, b1.nS (by omega), b2, b3, ⟨(ow_nS_o _ _ (by omega)).trans k1, (ow_nS_o _ _ (by omega)).trans k2, (ow_nS_o _ _ (by omega)).trans hB, ow_nS_s _ _ _, (ow_nS_o _ _ (by omega)).trans k3, fun q hq => (ow_nS_o _ _ (by omega)).trans (k5 q hq), fun q hq => ⟨(ow_nS_o _ _ (by omega)).trans (k6 q hq).1.1, (ow_nS_o _ _ (by omega)).trans (k6 q hq).1.2⟩⟩, cn_kV k7 (fun q hq => (k6 q hq).2.2)⟩)
      · refine or_aload_n E rfl dX6_init_106 ?_
        refine ot_getC E fl_6_33 dX6_init_107 k1 rfl ?_
        refine or_iload_n E rfl dX6_init_110 ?_
        refine or_newO (f := fun _ => .null) (ci := 1) (κ := raw0) E (ow_T_in 66 (by decide +kernel) (by decide +kernel)) (ow_T_in 98 (by decide +kernel) (by decide +kernel)) (ow_T_in 5 (by decide +kernel) (by decide +kernel)) rfl ow_ok1 tyX1_ok df_1 dX6_init_111 (by omega) (by omega) ?_
        refine or_dup E rfl dX6_init_114 ?_
        refine or_xIN [] (cB_init (Z := Z) (ow_nS_s _ _ _)) E G F (og_16 G 2 rfl) ln_1 dX6_init_115 rfl (by decide) (by decide) ⟨by omega, by omega⟩ (Nat.le_of_ble_eq_true rfl) (fun r h1 q => ?_) (fun c' h1 hc' q => absurd q.1 (Nat.pos_iff_ne_zero.mp hc'))
        obtain ⟨rfl, rfl⟩ := q.2.1 rfl
        refine or_aastV (j := j) E dX6_init_118 (n := 20) (a := a + 3) (κ := fun _ => some none) (κv := raw0) (ci := 1) ((ow_nS_o _ _ (by omega)).trans ((ow_nS_o _ _ (by omega)).trans (k4))) rfl ((ow_nS_o _ _ (by omega)).trans (ow_nS_s _ _ _)) rfl rfl (by omega) (Nat.le_of_ble_eq_true rfl) ?_
        refine or_iincN (c := 1) E dX6_init_119 rfl rfl (by decide) ?_
        refine or_goto 100 E dX6_init_122 rfl ?_
        refine or_re (ow_re_o (a := a + 11 + 2 * j) (κ1 := br_k (a + 11 + 2 * j)) ((ow_nS_o _ _ (by omega)).trans (ow_nS_s _ _ _)) (fun k => ?_)) ?_
        · match k with
          | 0 =>
            show ow_u _ (a + 3) j _ (a + 11 + 2 * j) 0 = _
            rw [ow_u_a _ _ _ _ (by omega), ow_u_s]
            rfl
          | k + 1 => rfl
        refine or_lv [(0, .ref a), (1, .int (nI (j + 1)))] rfl ?_
        refine cn_at ?_ (ih (j + 1) _ _ _ (by omega) (by omega) ?_ ?_)
        · exact ⟨by omega, by omega, by omega⟩
        · refine ⟨⟨?_, ?_, ?_⟩, ⟨?_, ?_, ?_⟩, ?_, fun q hq => ?_, fun q hq => ?_, ?_⟩
          · repeat (first | exact bl.rf | assumption | refine bl.nS ?_ (by omega) | refine bl.nI ?_ (by omega) | refine bl.nV ?_ (by omega) | refine bl.u ?_ (by omega))
          · repeat (first | exact bl.rf | assumption | refine bl.nS ?_ (by omega) | refine bl.nI ?_ (by omega) | refine bl.nV ?_ (by omega) | refine bl.u ?_ (by omega))
          · repeat (first | exact bl.rf | assumption | refine bl.nS ?_ (by omega) | refine bl.nI ?_ (by omega) | refine bl.nV ?_ (by omega) | refine bl.u ?_ (by omega))
          · repeat (first | exact ow_nS_s _ _ _ | assumption | refine (ow_nS_o _ _ (by omega)).trans ?_)
          · repeat (first | exact ow_nS_s _ _ _ | assumption | refine (ow_nS_o _ _ (by omega)).trans ?_)
          · repeat (first | exact ow_nS_s _ _ _ | assumption | refine (ow_nS_o _ _ (by omega)).trans ?_)
          · repeat (first | exact ow_nS_s _ _ _ | assumption | refine (ow_nS_o _ _ (by omega)).trans ?_)
          · exact (ow_nS_o _ _ (by omega)).trans ((ow_nS_o _ _ (by omega)).trans ((ow_nS_o _ _ (by omega)).trans (k5 q hq)))
          · by_cases e : q = j
            · subst e
              refine ⟨⟨ow_nS_s _ _ _, ?_⟩, ow_u_s _ _ _ _, ?_⟩
              · repeat (first | exact ow_nS_s _ _ _ | assumption | refine (ow_nS_o _ _ (by omega)).trans ?_)
              · rw [ow_nI_o _ (by omega), ow_nI_f]
            · refine ⟨⟨(ow_nS_o _ _ (by omega)).trans ((ow_nS_o _ _ (by omega)).trans ((ow_nS_o _ _ (by omega)).trans (k6 q (by omega)).1.1)), (ow_nS_o _ _ (by omega)).trans ((ow_nS_o _ _ (by omega)).trans ((ow_nS_o _ _ (by omega)).trans (k6 q (by omega)).1.2))⟩, ?_, ?_⟩
              · rw [ow_u_k _ _ _ _ e, ow_u_a _ _ _ _ (by omega), ow_nV_o _ _ (by omega)]
                exact (k6 q (by omega)).2.1
              · rw [ow_nI_o _ (by omega), ow_nI_o _ (by omega)]
                exact (k6 q (by omega)).2.2
          · rw [ow_nI_o _ (by omega), ow_nI_o _ (by omega)]
            exact k7
        · repeat (first | exact ow_nS_s _ _ _ | assumption | refine (ow_nS_o _ _ (by omega)).trans ?_)
  have L73 : ∀ (n i : Nat) (S1 : Nat → Option ow_Sh) (I1 : ow_I) (V1 : Nat → Nat → Value), i ≤ 6 → 6 - i < n → cnK S I V a i 0 S1 I1 V1 → cnB a i S1 V1 → ow_W X (4 + i) (49 + 5 * i) (S1, I1, V1, a + 5 + i) 73 [(0, .ref a), (1, .int (nI i))] [] := by
    intro n
    induction n with
    | zero => intro i S1 I1 V1 hi hn; omega
    | succ n ih =>
      intro i S1 I1 V1 hi hn hI1 hB
      obtain ⟨⟨b1, b2, b3⟩, ⟨k1, k2, k3⟩, k4, k5, k6, k7⟩ := hI1
      refine or_iload_n E rfl dX6_init_73 ?_
      refine or_bipush (v := nI 6) E rfl dX6_init_74 ?_
      refine or_icmp_geN 98 E dX6_init_76 rfl (by omega) (by omega) (fun q76 => ?_) (fun q76 => ?_)
      · have hi : i = 6 := by omega
        subst hi
        refine or_reA (mk_by a) hB.1 (fun k hk => hB.2 k hk) ?_
        refine or_iconst (v := nI 0) E rfl dX6_init_98 ?_
        refine or_istore_n E dX6_init_99 (by decide) ?_
        refine or_lv [(0, .ref a), (1, .int (nI 0))] rfl ?_
        exact L100 21 0 _ _ _ (by omega) (by omega) ⟨⟨b1.nS (by omega), b2, b3⟩, ⟨(ow_nS_o _ _ (by omega)).trans k1, (ow_nS_o _ _ (by omega)).trans k2, (ow_nS_o _ _ (by omega)).trans k3⟩, (ow_nS_o _ _ (by omega)).trans k4, fun q hq => (ow_nS_o _ _ (by omega)).trans (k5 q hq), fun q hq => absurd hq (by omega), k7⟩ (ow_nS_s _ _ _)
      · refine or_aload_n E rfl dX6_init_79 ?_
        refine ot_getC E fl_6_27 dX6_init_80 k1 rfl ?_
        refine or_iload_n E rfl dX6_init_83 ?_
        refine or_newO (f := fun _ => .null) (ci := 2) (κ := ow_n) E (ow_T_in 64 (by decide +kernel) (by decide +kernel)) (ow_T_in 68 (by decide +kernel) (by decide +kernel)) (ow_T_in 4 (by decide +kernel) (by decide +kernel)) rfl ow_ok2 tyX2_ok df_2 dX6_init_84 (by omega) (by omega) ?_
        refine or_dup E rfl dX6_init_87 ?_
        refine or_xIN [] (cY_init (Z := Z) (ow_nS_s _ _ _)) E G F (og_16 G 1 rfl) ln_2 dX6_init_88 rfl (by decide) (by decide) ⟨by omega, by omega⟩ (Nat.le_of_ble_eq_true rfl) (fun r h1 q => ?_) (fun c' h1 hc' q => absurd q.1 (Nat.pos_iff_ne_zero.mp hc'))
        obtain ⟨rfl, rfl⟩ := q.2.1 rfl
        refine or_aastV (j := i) E dX6_init_91 (n := 6) (a := a + 2) (κ := fun _ => some none) (κv := ow_n) (ci := 2) ((ow_nS_o _ _ (by omega)).trans (hB.1)) rfl (ow_nS_s _ _ _) rfl rfl (by omega) (Nat.le_of_ble_eq_true rfl) ?_
        refine or_iincN (c := 1) E dX6_init_92 rfl rfl (by decide) ?_
        refine or_goto 73 E dX6_init_95 rfl ?_
        refine or_lv [(0, .ref a), (1, .int (nI (i + 1)))] rfl ?_
        refine cn_at ?_ (ih (i + 1) _ _ _ (by omega) (by omega) ?_ ?_)
        · exact ⟨by omega, by omega, by omega⟩
        · refine ⟨⟨?_, ?_, ?_⟩, ⟨?_, ?_, ?_⟩, ?_, fun q hq => ?_, fun q hq => absurd hq (by omega), ?_⟩
          · repeat (first | exact bl.rf | assumption | refine bl.nS ?_ (by omega) | refine bl.nI ?_ (by omega) | refine bl.nV ?_ (by omega) | refine bl.u ?_ (by omega))
          · repeat (first | exact bl.rf | assumption | refine bl.nS ?_ (by omega) | refine bl.nI ?_ (by omega) | refine bl.nV ?_ (by omega) | refine bl.u ?_ (by omega))
          · repeat (first | exact bl.rf | assumption | refine bl.nS ?_ (by omega) | refine bl.nI ?_ (by omega) | refine bl.nV ?_ (by omega) | refine bl.u ?_ (by omega))
          · repeat (first | exact ow_nS_s _ _ _ | assumption | refine (ow_nS_o _ _ (by omega)).trans ?_)
          · repeat (first | exact ow_nS_s _ _ _ | assumption | refine (ow_nS_o _ _ (by omega)).trans ?_)
          · repeat (first | exact ow_nS_s _ _ _ | assumption | refine (ow_nS_o _ _ (by omega)).trans ?_)
          · repeat (first | exact ow_nS_s _ _ _ | assumption | refine (ow_nS_o _ _ (by omega)).trans ?_)
          · by_cases e : q = i
            · subst e
              exact ow_nS_s _ _ _
            · exact (ow_nS_o _ _ (by omega)).trans (k5 q (by omega))
          · rw [ow_nI_o _ (by omega)]
            exact k7
        · refine ⟨(ow_nS_o _ _ (by omega)).trans hB.1, fun q hq => ?_⟩
          by_cases e : q = i
          · subst e
            exact ow_u_s _ _ _ _
          · rw [ow_u_k _ _ _ _ e, ow_nV_o _ _ (by omega)]
            exact hB.2 q (by omega)
  refine or_aload_n E rfl dX6_init_0 ?_
  refine or_oinit E lo_6_3 dX6_init_1 (by decide) (Nat.le_of_ble_eq_true rfl) ?_
  refine or_aload_n E rfl dX6_init_4 ?_
  refine or_newO (f := fun _ => .null) (ci := 8) (κ := ow_n) E (ow_T_in 44 (by decide +kernel) (by decide +kernel)) (ow_T_in 45 (by decide +kernel) (by decide +kernel)) (ow_T_in 3 (by decide +kernel) (by decide +kernel)) rfl ow_ok8 tyX8_ok df_8 dX6_init_5 (by omega) (by omega) ?_
  refine or_dup E rfl dX6_init_8 ?_
  refine or_xIN [] (cT_init (Z := Z) (ow_nS_s _ _ _)) E G F (og_16 G 0 rfl) ln_8 dX6_init_9 rfl (by decide) (by decide) ⟨by omega, by omega⟩ (Nat.le_of_ble_eq_true rfl) (fun r h1 q => ?_) (fun c' h1 hc' q => absurd q.1 (Nat.pos_iff_ne_zero.mp hc'))
  obtain ⟨rfl, rfl⟩ := q.2.1 rfl
  refine ot_putF E F fl_6_12 (.object "LowWaterAuction$Tide") ff_6_0 rfl rfl dX6_init_12 ((ow_nS_o _ _ (by omega)).trans (hS)) rfl ?_
  refine or_aload_n E rfl dX6_init_15 ?_
  refine or_iconst (v := nI 1) E rfl dX6_init_16 ?_
  refine ot_putI E fl_6_18 fw_6_1 dX6_init_17 ((ow_nS_o _ _ (by omega)).trans (hS)) rfl ?_
  refine or_aload_n E rfl dX6_init_20 ?_
  refine or_iconst (v := nI 1) E rfl dX6_init_21 ?_
  refine ot_putI E fl_6_22 fw_6_2 dX6_init_22 ((ow_nS_o _ _ (by omega)).trans (hS)) rfl ?_
  refine or_aload_n E rfl dX6_init_25 ?_
  refine or_bipush (v := nI 6) E rfl dX6_init_26 ?_
  refine or_newR (N := 6) E (ow_T_in 64 (by decide +kernel) (by decide +kernel)) (og_u_imp (og_17 G) (fun _ h => h _ (List.mem_of_getElem? (i := 0) rfl))) dX6_init_28 (Nat.le_of_ble_eq_true rfl) (by omega) (by omega) ?_
  refine ot_putF E F fl_6_27 (.array (.object "LowWaterAuction$Buyer")) ff_6_7 rfl rfl dX6_init_31 ((ow_nS_o _ _ (by omega)).trans ((ow_nS_o _ _ (by omega)).trans (hS))) rfl ?_
  refine or_aload_n E rfl dX6_init_34 ?_
  refine or_bipush (v := nI 20) E rfl dX6_init_35 ?_
  refine or_newR (N := 20) E (ow_T_in 66 (by decide +kernel) (by decide +kernel)) (og_u_imp (og_17 G) (fun _ h => h _ (List.mem_of_getElem? (i := 1) rfl))) dX6_init_37 (Nat.le_of_ble_eq_true rfl) (by omega) (by omega) ?_
  refine ot_putF E F fl_6_33 (.array (.object "LowWaterAuction$Barrel")) ff_6_9 rfl rfl dX6_init_40 ((ow_nS_o _ _ (by omega)).trans ((ow_nS_o _ _ (by omega)).trans ((ow_nS_o _ _ (by omega)).trans (hS)))) rfl ?_
  refine or_aload_n E rfl dX6_init_43 ?_
  refine or_bipush (v := nI 20) E rfl dX6_init_44 ?_
  refine or_newa (atype := .int) (N := 20) (κ := ow_n) E (ow_T_in 97 (by decide +kernel) (by decide +kernel)) rfl (fun _ => rfl) dX6_init_46 (by decide) (by decide) (by omega) (by omega) ?_
  refine ot_putF E F fl_6_37 (.array .int) ff_6_11 rfl rfl dX6_init_48 ((ow_nS_o _ _ (by omega)).trans ((ow_nS_o _ _ (by omega)).trans ((ow_nS_o _ _ (by omega)).trans ((ow_nS_o _ _ (by omega)).trans (hS))))) rfl ?_
  refine or_aload_n E rfl dX6_init_51 ?_
  refine or_iconst (v := -1) E rfl dX6_init_52 ?_
  refine ot_putI E fl_6_41 fw_6_13 dX6_init_53 ((ow_nS_o _ _ (by omega)).trans ((ow_nS_o _ _ (by omega)).trans ((ow_nS_o _ _ (by omega)).trans ((ow_nS_o _ _ (by omega)).trans (hS))))) rfl ?_
  refine or_aload_n E rfl dX6_init_56 ?_
  refine or_iconst (v := -1) E rfl dX6_init_57 ?_
  refine ot_putI E fl_6_44 fw_6_14 dX6_init_58 ((ow_nS_o _ _ (by omega)).trans ((ow_nS_o _ _ (by omega)).trans ((ow_nS_o _ _ (by omega)).trans ((ow_nS_o _ _ (by omega)).trans (hS))))) rfl ?_
  refine or_aload_n E rfl dX6_init_61 ?_
  refine or_iconst (v := -1) E rfl dX6_init_62 ?_
  refine ot_putI E fl_6_47 fw_6_15 dX6_init_63 ((ow_nS_o _ _ (by omega)).trans ((ow_nS_o _ _ (by omega)).trans ((ow_nS_o _ _ (by omega)).trans ((ow_nS_o _ _ (by omega)).trans (hS))))) rfl ?_
  refine or_aload_n E rfl dX6_init_66 ?_
  refine or_iconst (v := -1) E rfl dX6_init_67 ?_
  refine ot_putI E fl_6_50 fw_6_16 dX6_init_68 ((ow_nS_o _ _ (by omega)).trans ((ow_nS_o _ _ (by omega)).trans ((ow_nS_o _ _ (by omega)).trans ((ow_nS_o _ _ (by omega)).trans (hS))))) rfl ?_
  refine or_iconst (v := nI 0) E rfl dX6_init_71 ?_
  refine or_istore_n E dX6_init_72 (by decide) ?_
  refine or_re (ow_re_o (a := a) (κ1 := mk_k a) ((ow_nS_o _ _ (by omega)).trans ((ow_nS_o _ _ (by omega)).trans ((ow_nS_o _ _ (by omega)).trans ((ow_nS_o _ _ (by omega)).trans (hS))))) (fun k => ?_)) ?_
  · match k with
    | 0 => simp [ow_v, raw6, mk_k, ow_u, ow_nV, Nat.add_assoc]
    | 7 => simp [ow_v, raw6, mk_k, ow_u, ow_nV, Nat.add_assoc]
    | 9 => simp [ow_v, raw6, mk_k, ow_u, ow_nV, Nat.add_assoc]
    | 11 => simp [ow_v, raw6, mk_k, ow_u, ow_nV, Nat.add_assoc]
    | 1 => rfl
    | 2 => rfl
    | 3 => rfl
    | 4 => rfl
    | 5 => rfl
    | 6 => rfl
    | 8 => rfl
    | 10 => rfl
    | k + 12 => rfl
  refine or_lv [(0, .ref a), (1, .int (nI 0))] rfl ?_
  refine cn_at ?_ (L73 7 0 _ _ _ (by omega) (by omega) ?_ ?_)
  · exact ⟨by omega, by omega, by omega⟩
  · refine ⟨⟨?_, ?_, ?_⟩, ⟨?_, ?_, ?_⟩, ?_, fun q hq => absurd hq (by omega), fun q hq => absurd hq (by omega), ?_⟩
    · repeat (first | exact bl.rf | assumption | refine bl.nS ?_ (by omega) | refine bl.nI ?_ (by omega) | refine bl.nV ?_ (by omega) | refine bl.u ?_ (by omega))
    · repeat (first | exact bl.rf | assumption | refine bl.nS ?_ (by omega) | refine bl.nI ?_ (by omega) | refine bl.nV ?_ (by omega) | refine bl.u ?_ (by omega))
    · repeat (first | exact bl.rf | assumption | refine bl.nS ?_ (by omega) | refine bl.nI ?_ (by omega) | refine bl.nV ?_ (by omega) | refine bl.u ?_ (by omega))
    · repeat (first | exact ow_nS_s _ _ _ | assumption | refine (ow_nS_o _ _ (by omega)).trans ?_)
    · repeat (first | exact ow_nS_s _ _ _ | assumption | refine (ow_nS_o _ _ (by omega)).trans ?_)
    · repeat (first | exact ow_nS_s _ _ _ | assumption | refine (ow_nS_o _ _ (by omega)).trans ?_)
    · repeat (first | exact ow_nS_s _ _ _ | assumption | refine (ow_nS_o _ _ (by omega)).trans ?_)
    · simp [ow_u, ow_nI, hI, Nat.add_assoc]
  · refine ⟨?_, fun q hq => absurd hq (by omega)⟩
    repeat (first | exact ow_nS_s _ _ _ | assumption | refine (ow_nS_o _ _ (by omega)).trans ?_)
