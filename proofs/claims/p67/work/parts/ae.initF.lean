theorem fl_10_26 : ow_fl RX10 26 10 3 := ⟨_, rfl, by decide, ow_T_in 537 (by decide +kernel) (by decide +kernel), ow_ok10⟩
theorem fl_10_30 : ow_fl RX10 30 10 4 := ⟨_, rfl, by decide, ow_T_in 538 (by decide +kernel) (by decide +kernel), ow_ok10⟩
theorem fl_10_48 : ow_fl RX10 48 10 7 := ⟨_, rfl, by decide, ow_T_in 541 (by decide +kernel) (by decide +kernel), ow_ok10⟩
theorem lk_10_58 : ow_lv RX10 58 yX5_addSigns cX5_addSigns 3 none 1 := ⟨ow_T_in 360 (by decide +kernel) (by decide +kernel), ow_T_in 361 (by decide +kernel) (by decide +kernel), ow_T_in 362 (by decide +kernel) (by decide +kernel), ow_T_in 8 (by decide +kernel) (by decide +kernel), ow_T_in 363 (by decide +kernel) (by decide +kernel), ⟨by decide +kernel, by decide +kernel, by decide +kernel⟩⟩
/-! THE CLASS'S CONSTRUCTOR -/
def bx {α : Type} (f g : Nat → α) (x n : Nat) : Prop := ∀ b, b < n → b ≠ x → g b = f b
theorem bx.rf {α : Type} {f : Nat → α} {x n : Nat} : bx f f x n := fun _ _ _ => rfl
theorem bx.nS {S S1 : Nat → Option ow_Sh} {x n a : Nat} {sh : ow_Sh} (p : bx S S1 x n) (hn : n ≤ a ∨ a = x) : bx S (ow_nS S1 a sh) x n := fun b hb hx => (ow_nS_o _ _ (by omega)).trans (p b hb hx)
theorem bx.nI {I I1 : ow_I} {x n a : Nat} (p : bx I I1 x n) (hn : n ≤ a) : bx I (ow_nI I1 a) x n := fun b hb hx => (ow_nI_o _ (by omega)).trans (p b hb hx)
theorem bx.nV {V V1 : Nat → Nat → Value} {x n a : Nat} {f : Nat → Value} (p : bx V V1 x n) (hn : n ≤ a) : bx V (ow_nV V1 a f) x n := fun b hb hx => (ow_nV_o _ _ (by omega)).trans (p b hb hx)
theorem bx.u {α : Type} {f g : Nat → Nat → α} {x n a k : Nat} {y : α} (p : bx f g x n) (hn : n ≤ a ∨ a = x) : bx f (ow_u g a k y) x n := fun b hb hx => by
  funext j
  rw [ow_u_a _ _ _ _ (by omega), p b hb hx]
theorem bx.bl {α : Type} {f g h : Nat → α} {x n m : Nat} (q : bl g h m) (p : bx f g x n) (hn : n ≤ m) : bx f h x n := fun b hb hx => (q b (by omega)).trans (p b hb hx)
theorem mkS_bx {S S1 : Nat → Option ow_Sh} {a x n : Nat} (p : bx S S1 x n) (h : mk_S S a) (hx : x < a) (hn : a + 51 ≤ n) : mk_S S1 a := by
  obtain ⟨h1, h2, h3, h4, h5, h6, h7⟩ := h
  exact ⟨(p _ (by omega) (by omega)).trans h1, (p _ (by omega) (by omega)).trans h2, (p _ (by omega) (by omega)).trans h3, (p _ (by omega) (by omega)).trans h4, (p _ (by omega) (by omega)).trans h5, fun i hi => (p _ (by omega) (by omega)).trans (h6 i hi), fun i hi => ⟨(p _ (by omega) (by omega)).trans (h7 i hi).1, (p _ (by omega) (by omega)).trans (h7 i hi).2⟩⟩
theorem kV_bx {I I1 : ow_I} {a x n : Nat} (p : bx I I1 x n) (h : k_V a I) (hx : x < a) (hn : a + 51 ≤ n) : k_V a I1 := kV_eq h (fun b h1 h2 => p b (by omega) (by omega))
theorem hsS_bx {S S1 : Nat → Option ow_Sh} {h x n : Nat} (p : bx S S1 x n) (k : hs_S S h) (hx : x < h) (hn : h + 410 ≤ n) : hs_S S1 h :=
  ⟨(p _ (by omega) (by omega)).trans k.1, (p _ (by omega) (by omega)).trans k.2.1, fun i hi => mkS_bx p (k.2.2 i hi) (by omega) (by omega)⟩
theorem psS_bx {S S1 : Nat → Option ow_Sh} {a x n : Nat} (p : bx S S1 x n) (k : ps_S S a) (hx : x < a) (hn : a + 46 ≤ n) : ps_S S1 a := by
  obtain ⟨k1, ⟨k2, k3⟩, k4, ⟨k5, k6⟩, k7⟩ := k
  exact ⟨(p _ (by omega) (by omega)).trans k1, ⟨(p _ (by omega) (by omega)).trans k2, (p _ (by omega) (by omega)).trans k3⟩, (p _ (by omega) (by omega)).trans k4, ⟨(p _ (by omega) (by omega)).trans k5, (p _ (by omega) (by omega)).trans k6⟩, fun i hi => ⟨(p _ (by omega) (by omega)).trans (k7 i hi).1, (p _ (by omega) (by omega)).trans (k7 i hi).2⟩⟩
/-- the constructor's memory before the snapshots are made -/
def ai_Q (Z : Nat → Nat) (x : Nat) (S1 : Nat → Option ow_Sh) (I0 : ow_I) (V1 : Nat → Nat → Value) : Prop :=
  (S1 x = some (.inl (10, au_k x)) ∧ mk_S S1 (x + 1) ∧ mk_S S1 (x + 52) ∧ hs_S S1 (x + 103) ∧ S1 (x + 514) = some (.inr (.boolean, 2, ow_n)) ∧ ps_S S1 (x + 515) ∧ i9_S S1 (x + 561)) ∧ (sb_S S1 (x + 562) ∧ S1 (x + 563) = some (.inr (.byte, 16, ow_n)) ∧ V1 (x + 562) 0 = .ref (x + 563)) ∧
  ((k_V (x + 1) I0 ∧ k_V (x + 52) I0 ∧ (∀ i, i < 8 → k_V (x + 103 + 2 + 51 * i) I0)) ∧ I0 (x + 103) 1 = 0 ∧ I0 (x + 103) 2 = 0 ∧ I0 (x + 514) = fun _ => 0) ∧
  (cm_V (x + 515) I0 ∧ (∀ i, i < 20 → I0 (x + 515 + 6 + 2 * i) 0 = nI 5 ∧ V1 (x + 515 + 6 + 2 * i) 0 = .ref (Z 45)) ∧ (∀ j, I0 (x + 515 + 1) j = 0) ∧ I0 (x + 515) 5 = 0 ∧ I0 (x + 515) 6 = -1) ∧ (I0 (x + 562) = fun _ => 0) ∧ I0 (x + 563) = fun _ => 0
theorem bl.bx {α : Type} {f g : Nat → α} {n x : Nat} (p : bl f g n) : bx f g x n := fun b hb _ => p b hb
theorem aiQ_bl {Z : Nat → Nat} {x : Nat} {S S1 : Nat → Option ow_Sh} {I I1 : ow_I} {V V1 : Nat → Nat → Value} (pS : bl S S1 (x + 564)) (pI : bl I I1 (x + 564)) (pV : ∀ b, b < x + 564 → b ≠ x + 513 → V1 b = V b) (h : ai_Q Z x S I V) : ai_Q Z x S1 I1 V1 := by
  obtain ⟨⟨h1, h2, h3, h4, h5, h6, h7⟩, ⟨h8, h9, h10⟩, ⟨⟨h11, h12, h13⟩, h14, h15, h16⟩, ⟨h17, h18, h19, h20, h21⟩, h22, h23⟩ := h
  refine ⟨⟨(pS _ (by omega)).trans h1, mkS_bl pS h2 (by omega), mkS_bl pS h3 (by omega), hsS_bx (x := x) pS.bx h4 (by omega) (by omega), (pS _ (by omega)).trans h5, psS_bx (x := x) pS.bx h6 (by omega) (by omega), (pS _ (by omega)).trans h7⟩, ⟨(pS _ (by omega)).trans h8, (pS _ (by omega)).trans h9, by rw [pV _ (by omega) (by omega)]; exact h10⟩,
    ⟨⟨kV_bx (x := x) pI.bx h11 (by omega) (by omega), kV_bx (x := x) pI.bx h12 (by omega) (by omega), fun i hi => kV_bx (x := x) pI.bx (h13 i hi) (by omega) (by omega)⟩, by rw [pI _ (by omega)]; exact h14, by rw [pI _ (by omega)]; exact h15, by rw [pI _ (by omega)]; exact h16⟩,
    ⟨cm_row h17 (pI _ (by omega)) (fun i hi => pI _ (by omega)), fun i hi => ?_, fun j => by rw [pI _ (by omega)]; exact h19 j, by rw [pI _ (by omega)]; exact h20, by rw [pI _ (by omega)]; exact h21⟩, by rw [pI _ (by omega)]; exact h22, by rw [pI _ (by omega)]; exact h23⟩
  rw [pI _ (by omega), pV _ (by omega) (by omega)]
  exact h18 i hi
/-- the constructor's memory before it reads its own text -/
def ai_P (Z : Nat → Nat) (x : Nat) (S1 : Nat → Option ow_Sh) (I0 : ow_I) (V1 : Nat → Nat → Value) : Prop := au_S S1 x ∧ ai_Q Z x S1 I0 V1 ∧ ∀ i, i < 2 → k_V (x + 564 + 51 * i) I0
theorem in_as {u w : Nat} {I : ow_I} (h : in_R (I u)) : in_R (U_addSigns u w I u) := by
  have L : ∀ (n : Nat) (I : ow_I) (i : Nat), in_R (I u) → in_R (U_addSigns_L2 u w n I i u) := by
    intro n
    induction n with
    | zero => intro I i h; exact h
    | succ n ih =>
      intro I i h
      simp only [U_addSigns_L2, lt_eq]
      split
      · exact h
      · refine ih _ _ ⟨ab_1 h.1.1 h.1.2, ?_, ?_⟩
        · rw [fr_ab (by decide)]
          exact h.2.1
        · rw [fr_ab (by decide)]
          exact h.2.2
  exact L _ _ _ h
theorem rr_as {u w b : Nat} {I : ow_I} (h : b ≠ u) (h1 : b ≠ u + 1) : U_addSigns u w I b = I b := by
  have L : ∀ (n : Nat) (I : ow_I) (i : Nat), U_addSigns_L2 u w n I i b = I b := by
    intro n
    induction n with
    | zero => intro I i; rfl
    | succ n ih =>
      intro I i
      simp only [U_addSigns_L2, lt_eq]
      split
      · rfl
      · rw [ih, rr_ab h h1]
  exact L _ _ _
def ai_I (x : Nat) (I0 : ow_I) : ow_I := ow_u (Q_readSetup (x + 515) (x + 1) (U_addSigns (x + 515 + 1) 9 I0)).2 (x + 515 + 1) 1 (nI 0)
def raw10 : Nat → Option (Option Value) := fun k => match k with
  | 0 => some none
  | 1 => some none
  | 2 => some none
  | 3 => some none
  | 4 => some none
  | 5 => some none
  | 6 => some none
  | 7 => some none
  | _ => none
def raw10k (n x : Nat) : Nat → Option (Option Value) := fun k => if k < n then au_k x k else raw10 k
theorem df_12 : ∀ k, k < 4 → defaultValue (tyJ4 k) = ow_v (sb_r k) 0 (if k = 0 then .null else .int 0) := fun k hk => match k, hk with | 0, _ => rfl | 1, _ => rfl | 2, _ => rfl | 3, _ => rfl | k + 4, h => absurd h (by omega)
theorem lo_10_1 : ow_lo RX10 1 := ⟨ow_T_in 35 (by decide +kernel) (by decide +kernel), ow_T_in 36 (by decide +kernel) (by decide +kernel), ow_T_in 37 (by decide +kernel) (by decide +kernel)⟩
theorem lz_10_21 : ow_lz RX10 21 yX4_init cX4_init 2 0 := ⟨ow_T_in 227 (by decide +kernel) (by decide +kernel), ow_T_in 228 (by decide +kernel) (by decide +kernel), ow_T_in 6 (by decide +kernel) (by decide +kernel), ow_T_in 229 (by decide +kernel) (by decide +kernel), rfl, ⟨by decide, by decide, by decide +kernel⟩⟩
theorem lz_10_36 : ow_lz RX10 36 yX7_init cX7_init 2 0 := ⟨ow_T_in 246 (by decide +kernel) (by decide +kernel), ow_T_in 247 (by decide +kernel) (by decide +kernel), ow_T_in 7 (by decide +kernel) (by decide +kernel), ow_T_in 248 (by decide +kernel) (by decide +kernel), rfl, ⟨by decide, by decide, by decide +kernel⟩⟩
theorem lz_10_47 : ow_lz RX10 47 yJ4_init_da8c8 cJ4_init_da8c8 1 0 := ⟨ow_T_in 329 (by decide +kernel) (by decide +kernel), ow_T_in 330 (by decide +kernel) (by decide +kernel), ow_T_in 13 (by decide +kernel) (by decide +kernel), ow_T_in 331 (by decide +kernel) (by decide +kernel), rfl, ⟨by decide, by decide, by decide +kernel⟩⟩
theorem eq10 (x n : Nat) : ∀ k, n ≤ k → raw10k n x k = raw10 k := fun k h => if_neg (by omega)
theorem ff_10_0 : ∃ r : vw_C, ow_cl[10]? = some r ∧ (r.2.1 0).2.2.2 = true ∧ (r.2.1 0).1 = RX10 ∧ parseFieldDescriptor (r.2.1 0).2.2.1 = some (.object "LowWaterAuction$Market") := ⟨_, rfl, rfl, by decide +kernel, by decide +kernel⟩
theorem ff_10_1 : ∃ r : vw_C, ow_cl[10]? = some r ∧ (r.2.1 1).2.2.2 = true ∧ (r.2.1 1).1 = RX10 ∧ parseFieldDescriptor (r.2.1 1).2.2.1 = some (.object "LowWaterAuction$Market") := ⟨_, rfl, rfl, by decide +kernel, by decide +kernel⟩
theorem ff_10_2 : ∃ r : vw_C, ow_cl[10]? = some r ∧ (r.2.1 2).2.2.2 = true ∧ (r.2.1 2).1 = RX10 ∧ parseFieldDescriptor (r.2.1 2).2.2.1 = some (.object "LowWaterAuction$History") := ⟨_, rfl, rfl, by decide +kernel, by decide +kernel⟩
theorem ff_10_3 : ∃ r : vw_C, ow_cl[10]? = some r ∧ (r.2.1 3).2.2.2 = true ∧ (r.2.1 3).1 = RX10 ∧ parseFieldDescriptor (r.2.1 3).2.2.1 = some (.array (.object "LowWaterAuction$Market")) := ⟨_, rfl, rfl, by decide +kernel, by decide +kernel⟩
theorem ff_10_4 : ∃ r : vw_C, ow_cl[10]? = some r ∧ (r.2.1 4).2.2.2 = true ∧ (r.2.1 4).1 = RX10 ∧ parseFieldDescriptor (r.2.1 4).2.2.1 = some (.array .boolean) := ⟨_, rfl, rfl, by decide +kernel, by decide +kernel⟩
theorem ff_10_5 : ∃ r : vw_C, ow_cl[10]? = some r ∧ (r.2.1 5).2.2.2 = true ∧ (r.2.1 5).1 = RX10 ∧ parseFieldDescriptor (r.2.1 5).2.2.1 = some (.object "LowWaterAuction$Parser") := ⟨_, rfl, rfl, by decide +kernel, by decide +kernel⟩
theorem ff_10_6 : ∃ r : vw_C, ow_cl[10]? = some r ∧ (r.2.1 6).2.2.2 = true ∧ (r.2.1 6).1 = RX10 ∧ parseFieldDescriptor (r.2.1 6).2.2.1 = some (.array .int) := ⟨_, rfl, rfl, by decide +kernel, by decide +kernel⟩
theorem ff_10_7 : ∃ r : vw_C, ow_cl[10]? = some r ∧ (r.2.1 7).2.2.2 = true ∧ (r.2.1 7).1 = RX10 ∧ parseFieldDescriptor (r.2.1 7).2.2.1 = some (.object "java/lang/StringBuilder") := ⟨_, rfl, rfl, by decide +kernel, by decide +kernel⟩
theorem re10 {S : Nat → Option ow_Sh} {I : ow_I} {V : Nat → Nat → Value} {x n : Nat} {v : Value} (hn : n < 8) (hv : au_k x n = some (some v)) (hS : S x = some (.inl (10, raw10k n x))) : ow_re S (ow_nS S x (.inl (10, raw10k (n + 1) x))) I (ow_u V x n v) := by
  refine ow_re_o hS (fun k => ?_)
  by_cases e : k = n
  · subst e
    unfold raw10k
    rw [if_neg (Nat.lt_irrefl _), if_pos (Nat.lt_succ_self _), hv, ow_u_s]
    match k, hn with
    | 0, _ => rfl
    | 1, _ => rfl
    | 2, _ => rfl
    | 3, _ => rfl
    | 4, _ => rfl
    | 5, _ => rfl
    | 6, _ => rfl
    | 7, _ => rfl
  · unfold raw10k
    by_cases h : k < n
    · rw [if_pos h, if_pos (by omega)]
    · rw [if_neg h, if_neg (by omega)]
set_option maxRecDepth 100000 in
set_option maxHeartbeats 400000 in
theorem cA_init {Z : Nat → Nat} {S : Nat → Option ow_Sh} {I : ow_I} {V : Nat → Nat → Value} {x : Nat} (hS : S x = some (.inl (10, raw10))) : ow_Cx Z yX10_init cX10_init 2 none 9 665 6583 [.ref x] (S, I, V, x + 1) (cn_K S I V x (x + 666) (fun S1 I1 V1 => ∃ I0, I1 = ai_I x I0 ∧ ai_P Z x S1 I0 V1)) := by
  refine ow_Cx.of rfl (Nat.le_of_ble_eq_true rfl) (fun X E G F => ?_)
  have E : ow_E X RX10 cX10_init 2 (ow_rm 9 665 6583) := E
  refine or_lv [(0, .ref x)] rfl ?_
  have H108 : ∀ (S1 : Nat → Option ow_Sh) (I1 : ow_I) (V1 : Nat → Nat → Value), bl S S1 x → bl I I1 x → bl V V1 x → ai_P Z x S1 I1 V1 → ow_W X 665 6583 (S1, I1, V1, x + 666) 108 [(0, .ref x)] [] := by
    intro S1 I1 V1 b1 b2 b3 hP
    obtain ⟨hA, hQ, hk⟩ := id hP
    have hps := hA.2.2.2.2.2.2.1
    have hin : in_R (I1 (x + 515 + 1)) := by
      obtain ⟨-, -, -, ⟨-, -, h, -⟩, -⟩ := hQ
      refine ⟨?_, ?_, ?_⟩ <;> (rw [h]; decide)
    have hv1 : k_V (x + 1) (U_addSigns (x + 515 + 1) 9 I1) := kV_eq hQ.2.2.1.1.1 (fun b h1 h2 => rr_as (by omega) (by omega))
    have hI0 : bl I (ai_I x I1) x := by
      intro b hb
      have hT := pT_rset (p := x + 515) (a := x + 1) (I := U_addSigns (x + 515 + 1) 9 I1) (J := U_addSigns (x + 515 + 1) 9 I1) ⟨in_as hin, hv1, fun _ _ _ => rfl⟩ (by omega)
      unfold ai_I
      rw [rr_u (by omega), hT.2.2 b (by omega) (by omega), rr_as (by omega) (by omega)]
      exact b2 b hb
    refine or_aload_n E rfl dX10_init_108 ?_
    refine ot_getC E fl_10_37 dX10_init_109 hA.1 rfl ?_
    refine ot_getC E fl_10_52 dX10_init_112 hps.1 rfl ?_
    refine or_ldcS E (og_12 G 3 rfl) dX10_init_115 ?_
    refine or_fV1v (cU_addSigns (Z := Z) (w := 9) hps.2.1 (show (9 : Nat) < 10 by decide) hin.1.1 hin.1.2) E G F lk_10_58 dX10_init_117 hps.2.1.1 rfl rfl (by decide) (by decide) ⟨by omega, by omega⟩ (Nat.le_of_ble_eq_true rfl) (fun _ => ?_) (fun h => absurd h (Nat.lt_irrefl 0))
    refine or_aload_n E rfl dX10_init_120 ?_
    refine ot_getC E fl_10_37 dX10_init_121 hA.1 rfl ?_
    refine or_aload_n E rfl dX10_init_124 ?_
    refine ot_getC E fl_10_10 dX10_init_125 hA.1 rfl ?_
    refine or_fV1r (cQ_readSetup (Z := Z) hps hA.2.1 (in_as hin) (by omega) hv1) E G F lk_10_64 dX10_init_128 hps.1 rfl rfl (by decide) (by decide) ⟨by omega, by omega⟩ (Nat.le_of_ble_eq_true rfl) (fun _ => ?_) (fun h => absurd h (Nat.lt_irrefl 0))
    refine or_pop E rfl dX10_init_131 ?_
    refine or_aload_n E rfl dX10_init_132 ?_
    refine ot_getC E fl_10_37 dX10_init_133 hA.1 rfl ?_
    refine ot_getC E fl_10_52 dX10_init_136 hps.1 rfl ?_
    refine or_iconst (v := nI 0) E rfl dX10_init_139 ?_
    refine ot_putI E fl_10_68 fw_5_1 dX10_init_140 hps.2.1.1 rfl ?_
    exact or_xr E F (fun X' E' F' => or_vret E' F' dX10_init_143 (Nat.le_of_ble_eq_true rfl) (Nat.le_of_ble_eq_true rfl) ⟨rfl, rfl, _, _, _, rfl, b1, hI0, b3, I1, rfl, hP⟩)
  have L84 : ∀ (n i : Nat) (S1 : Nat → Option ow_Sh) (I1 : ow_I) (V1 : Nat → Nat → Value), i ≤ 2 → 2 - i < n → bl S S1 x → bl I I1 x → bl V V1 x → ai_Q Z x S1 I1 V1 → S1 (x + 513) = some (.inr (.object "LowWaterAuction$Market", 2, fun _ => some none)) → (∀ q, q < i → mk_S S1 (x + 564 + 51 * q) ∧ k_V (x + 564 + 51 * q) I1 ∧ V1 (x + 513) q = .ref (x + 564 + 51 * q)) → ow_W X (563 + 51 * i) (5631 + 476 * i) (S1, I1, V1, x + 564 + 51 * i) 84 [(0, .ref x), (1, .int (nI i))] [] := by
    intro n
    induction n with
    | zero => intro i S1 I1 V1 hi hn; omega
    | succ n ih =>
      intro i S1 I1 V1 hi hn b1 b2 b3 hQ k2 k3
      refine or_iload_n E rfl dX10_init_84 ?_
      refine or_iconst (v := nI 2) E rfl dX10_init_85 ?_
      refine or_icmp_geN 108 E dX10_init_86 rfl (by omega) (by omega) (fun q86 => ?_) (fun q86 => ?_)
      · have hi : i = 2 := by omega
        subst hi
        refine or_reA (au_sn x) k2 (fun k hk => (k3 k hk).2.2) ?_
        refine or_lv [(0, .ref x)] rfl ?_
        have hQ2 : ai_Q Z x (ow_nS S1 (x + 513) (.inr (.object "LowWaterAuction$Market", 2, au_sn x))) I1 V1 := by
          obtain ⟨⟨h1, h2, h3, h4, h5, h6, h7⟩, ⟨h8, h9, h10⟩, h11⟩ := hQ
          exact ⟨⟨(ow_nS_o _ _ (by omega)).trans h1, mkS_up (by omega) h2, mkS_up (by omega) h3, ⟨(ow_nS_o _ _ (by omega)).trans h4.1, (ow_nS_o _ _ (by omega)).trans h4.2.1, fun i hi => mkS_up (by omega) (h4.2.2 i hi)⟩, (ow_nS_o _ _ (by omega)).trans h5,
            ⟨(ow_nS_o _ _ (by omega)).trans h6.1, ⟨(ow_nS_o _ _ (by omega)).trans h6.2.1.1, (ow_nS_o _ _ (by omega)).trans h6.2.1.2⟩, (ow_nS_o _ _ (by omega)).trans h6.2.2.1, ⟨(ow_nS_o _ _ (by omega)).trans h6.2.2.2.1.1, (ow_nS_o _ _ (by omega)).trans h6.2.2.2.1.2⟩, fun i hi => ⟨(ow_nS_o _ _ (by omega)).trans (h6.2.2.2.2 i hi).1, (ow_nS_o _ _ (by omega)).trans (h6.2.2.2.2 i hi).2⟩⟩,
            (ow_nS_o _ _ (by omega)).trans h7⟩, ⟨(ow_nS_o _ _ (by omega)).trans h8, (ow_nS_o _ _ (by omega)).trans h9, h10⟩, h11⟩
        exact H108 _ _ _ (b1.nS (by omega)) b2 b3 ⟨⟨hQ2.1.1, hQ2.1.2.1, hQ2.1.2.2.1, hQ2.1.2.2.2.1, ow_nS_s _ _ _, hQ2.1.2.2.2.2.1, hQ2.1.2.2.2.2.2.1, hQ2.1.2.2.2.2.2.2, fun q hq => mkS_up (by omega) (k3 q hq).1⟩, hQ2, fun q hq => (k3 q hq).2.1⟩
      · refine or_aload_n E rfl dX10_init_89 ?_
        refine ot_getC E fl_10_26 dX10_init_90 hQ.1.1 rfl ?_
        refine or_iload_n E rfl dX10_init_93 ?_
        refine or_newO (f := fun _ => .null) (ci := 6) (κ := raw6) E (ow_T_in 38 (by decide +kernel) (by decide +kernel)) (ow_T_in 39 (by decide +kernel) (by decide +kernel)) (ow_T_in 2 (by decide +kernel) (by decide +kernel)) rfl ow_ok6 tyX6_ok df_6 dX10_init_94 (by omega) (by omega) ?_
        refine or_dup E rfl dX10_init_97 ?_
        refine or_xI [] (cK_init (Z := Z) (ow_nS_s _ _ _) (fun j => ow_nI_s _ _ j)) E G F lz_10_9 dX10_init_98 rfl (by decide) (by decide) ⟨by omega, by omega⟩ (Nat.le_of_ble_eq_true rfl) (fun r h1 q => ?_) (fun c' h1 hc' q => absurd q.1 (Nat.pos_iff_ne_zero.mp hc'))
        obtain ⟨-, rfl, S2, I2, V2, rfl, c1, c2, c3, c4, c5⟩ := q
        refine or_aastV (j := i) E dX10_init_101 (n := 2) (a := x + 513) (κ := fun _ => some none) (κv := mk_k (x + 564 + 51 * i)) (ci := 6) ((c1 _ (by omega)).trans ((ow_nS_o _ _ (by omega)).trans k2)) rfl c4.1 rfl rfl (by omega) (Nat.le_of_ble_eq_true rfl) ?_
        refine or_iincN (c := 1) E dX10_init_102 rfl rfl (by decide) ?_
        refine or_goto 84 E dX10_init_105 rfl ?_
        refine or_lv [(0, .ref x), (1, .int (nI (i + 1)))] rfl ?_
        refine cn_at ?_ (ih (i + 1) _ _ _ (by omega) (by omega) ((b1.nS (by omega)).tr c1 (by omega)) ((b2.nI (by omega)).tr c2 (by omega)) (((b3.nV (by omega)).tr c3 (by omega)).u (by omega)) ?_ ?_ (fun q hq => ?_))
        · exact ⟨by omega, by omega, by omega⟩
        · refine aiQ_bl (fun b hb => (c1 b (by omega)).trans (ow_nS_o _ _ (by omega))) (fun b hb => (c2 b (by omega)).trans (ow_nI_o _ (by omega))) (fun b hb hb2 => ?_) hQ
          funext j
          rw [ow_u_a _ _ _ _ (by omega), c3 b (by omega), ow_nV_o _ _ (by omega)]
        · exact (c1 _ (by omega)).trans ((ow_nS_o _ _ (by omega)).trans k2)
        · by_cases e : q = i
          · subst e
            exact ⟨c4, c5, ow_u_s _ _ _ _⟩
          · obtain ⟨m1, m2, m3⟩ := k3 q (by omega)
            refine ⟨mkS_bl c1 (mkS_up (by omega) m1) (by omega), kV_eq m2 (fun b h1 h2 => (c2 b (by omega)).trans (ow_nI_o _ (by omega))), ?_⟩
            rw [ow_u_k _ _ _ _ e, c3 _ (by omega), ow_nV_o _ _ (by omega)]
            exact m3
  refine or_aload_n E rfl dX10_init_0 ?_
  refine or_oinit E lo_10_1 dX10_init_1 (by decide) (Nat.le_of_ble_eq_true rfl) ?_
  refine or_aload_n E rfl dX10_init_4 ?_
  have hS : S x = some (.inl (10, raw10k 0 x)) := hS
  refine or_newO (f := fun _ => .null) (ci := 6) (κ := raw6) E (ow_T_in 38 (by decide +kernel) (by decide +kernel)) (ow_T_in 39 (by decide +kernel) (by decide +kernel)) (ow_T_in 2 (by decide +kernel) (by decide +kernel)) rfl ow_ok6 tyX6_ok df_6 dX10_init_5 (by omega) (by omega) ?_
  refine or_dup E rfl dX10_init_8 ?_
  refine or_xI [] (cK_init (Z := Z) (ow_nS_s _ _ _) (fun j => ow_nI_s _ _ j)) E G F lz_10_9 dX10_init_9 rfl (by decide) (by decide) ⟨by omega, by omega⟩ (Nat.le_of_ble_eq_true rfl) (fun r h1 q => ?_) (fun c' h1 hc' q => absurd q.1 (Nat.pos_iff_ne_zero.mp hc'))
  obtain ⟨-, rfl, S1, I1, V1, rfl, a1, b1, c1, d1⟩ := q
  refine ot_putF (κ := raw10k 0 x) E F fl_10_10 (.object "LowWaterAuction$Market") ff_10_0 rfl rfl dX10_init_12 ((a1 _ (by omega)).trans ((ow_nS_o _ _ (by omega)).trans hS)) rfl ?_
  refine or_re (re10 (n := 0) (by decide) rfl ((a1 _ (by omega)).trans ((ow_nS_o _ _ (by omega)).trans hS))) ?_
  refine or_aload_n E rfl dX10_init_15 ?_
  refine or_newO (f := fun _ => .null) (ci := 6) (κ := raw6) E (ow_T_in 38 (by decide +kernel) (by decide +kernel)) (ow_T_in 39 (by decide +kernel) (by decide +kernel)) (ow_T_in 2 (by decide +kernel) (by decide +kernel)) rfl ow_ok6 tyX6_ok df_6 dX10_init_16 (by omega) (by omega) ?_
  refine or_dup E rfl dX10_init_19 ?_
  refine or_xI [] (cK_init (Z := Z) (ow_nS_s _ _ _) (fun j => ow_nI_s _ _ j)) E G F lz_10_9 dX10_init_20 rfl (by decide) (by decide) ⟨by omega, by omega⟩ (Nat.le_of_ble_eq_true rfl) (fun r h1 q => ?_) (fun c' h1 hc' q => absurd q.1 (Nat.pos_iff_ne_zero.mp hc'))
  obtain ⟨-, rfl, S2, I2, V2, rfl, a2, b2, c2, d2⟩ := q
  refine ot_putF (κ := raw10k 1 x) E F fl_10_16 (.object "LowWaterAuction$Market") ff_10_1 rfl rfl dX10_init_23 ((a2 _ (by omega)).trans ((ow_nS_o _ _ (by omega)).trans (ow_nS_s _ _ _))) rfl ?_
  refine or_re (re10 (n := 1) (by decide) rfl ((a2 _ (by omega)).trans ((ow_nS_o _ _ (by omega)).trans (ow_nS_s _ _ _)))) ?_
  refine or_aload_n E rfl dX10_init_26 ?_
  refine or_newO (f := fun _ => .null) (ci := 4) (κ := raw0) E (ow_T_in 225 (by decide +kernel) (by decide +kernel)) (ow_T_in 226 (by decide +kernel) (by decide +kernel)) (ow_T_in 6 (by decide +kernel) (by decide +kernel)) rfl ow_ok4 tyX4_ok df_4 dX10_init_27 (by omega) (by omega) ?_
  refine or_dup E rfl dX10_init_30 ?_
  refine or_xI [] (cH_init (Z := Z) (ow_nS_s _ _ _) (fun j => ow_nI_s _ _ j)) E G F lz_10_21 dX10_init_31 rfl (by decide) (by decide) ⟨by omega, by omega⟩ (Nat.le_of_ble_eq_true rfl) (fun r h1 q => ?_) (fun c' h1 hc' q => absurd q.1 (Nat.pos_iff_ne_zero.mp hc'))
  obtain ⟨-, rfl, S3, I3, V3, rfl, a3, b3, c3, d3⟩ := q
  refine ot_putF (κ := raw10k 2 x) E F fl_10_22 (.object "LowWaterAuction$History") ff_10_2 rfl rfl dX10_init_34 ((a3 _ (by omega)).trans ((ow_nS_o _ _ (by omega)).trans (ow_nS_s _ _ _))) rfl ?_
  refine or_re (re10 (n := 2) (by decide) rfl ((a3 _ (by omega)).trans ((ow_nS_o _ _ (by omega)).trans (ow_nS_s _ _ _)))) ?_
  refine or_aload_n E rfl dX10_init_37 ?_
  refine or_iconst (v := nI 2) E rfl dX10_init_38 ?_
  refine or_newR (N := 2) E (ow_T_in 38 (by decide +kernel) (by decide +kernel)) (og_u_imp (og_17 G) (fun _ h => h _ (List.mem_of_getElem? (i := 2) rfl))) dX10_init_39 (Nat.le_of_ble_eq_true rfl) (by omega) (by omega) ?_
  refine ot_putF (κ := raw10k 3 x) E F fl_10_26 (.array (.object "LowWaterAuction$Market")) ff_10_3 rfl rfl dX10_init_42 ((ow_nS_o _ _ (by omega)).trans (ow_nS_s _ _ _)) rfl ?_
  refine or_re (re10 (n := 3) (by decide) rfl ((ow_nS_o _ _ (by omega)).trans (ow_nS_s _ _ _))) ?_
  refine or_aload_n E rfl dX10_init_45 ?_
  refine or_iconst (v := nI 2) E rfl dX10_init_46 ?_
  refine or_newa (atype := .boolean) (N := 2) (κ := ow_n) E (ow_T_in 279 (by decide +kernel) (by decide +kernel)) rfl (fun _ => rfl) dX10_init_47 (by decide) (by decide) (by omega) (by omega) ?_
  refine ot_putF (κ := raw10k 4 x) E F fl_10_30 (.array .boolean) ff_10_4 rfl rfl dX10_init_49 ((ow_nS_o _ _ (by omega)).trans (ow_nS_s _ _ _)) rfl ?_
  refine or_re (re10 (n := 4) (by decide) rfl ((ow_nS_o _ _ (by omega)).trans (ow_nS_s _ _ _))) ?_
  refine or_aload_n E rfl dX10_init_52 ?_
  refine or_newO (f := fun _ => .null) (ci := 7) (κ := raw7) E (ow_T_in 244 (by decide +kernel) (by decide +kernel)) (ow_T_in 245 (by decide +kernel) (by decide +kernel)) (ow_T_in 7 (by decide +kernel) (by decide +kernel)) rfl ow_ok7 tyX7_ok df_7 dX10_init_53 (by omega) (by omega) ?_
  refine or_dup E rfl dX10_init_56 ?_
  refine or_xI [] (cQ_init (Z := Z) (ow_nS_s _ _ _) (fun j => ow_nI_s _ _ j)) E G F lz_10_36 dX10_init_57 rfl (by decide) (by decide) ⟨by omega, by omega⟩ (Nat.le_of_ble_eq_true rfl) (fun r h1 q => ?_) (fun c' h1 hc' q => absurd q.1 (Nat.pos_iff_ne_zero.mp hc'))
  obtain ⟨-, rfl, S4, I4, V4, rfl, a4, b4, c4, d4⟩ := q
  refine ot_putF (κ := raw10k 5 x) E F fl_10_37 (.object "LowWaterAuction$Parser") ff_10_5 rfl rfl dX10_init_60 ((a4 _ (by omega)).trans ((ow_nS_o _ _ (by omega)).trans (ow_nS_s _ _ _))) rfl ?_
  refine or_re (re10 (n := 5) (by decide) rfl ((a4 _ (by omega)).trans ((ow_nS_o _ _ (by omega)).trans (ow_nS_s _ _ _)))) ?_
  refine or_aload_n E rfl dX10_init_63 ?_
  refine or_bipush (v := nI 9) E rfl dX10_init_64 ?_
  refine or_newa (atype := .int) (N := 9) (κ := ow_n) E (ow_T_in 97 (by decide +kernel) (by decide +kernel)) rfl (fun _ => rfl) dX10_init_66 (by decide) (by decide) (by omega) (by omega) ?_
  refine ot_putF (κ := raw10k 6 x) E F fl_10_41 (.array .int) ff_10_6 rfl rfl dX10_init_68 ((ow_nS_o _ _ (by omega)).trans (ow_nS_s _ _ _)) rfl ?_
  refine or_re (re10 (n := 6) (by decide) rfl ((ow_nS_o _ _ (by omega)).trans (ow_nS_s _ _ _))) ?_
  refine or_aload_n E rfl dX10_init_71 ?_
  refine or_newO (f := fun k => if k = 0 then .null else .int 0) (ci := 12) (κ := sb_r) E (ow_T_in 327 (by decide +kernel) (by decide +kernel)) (ow_T_in 328 (by decide +kernel) (by decide +kernel)) (ow_T_in 13 (by decide +kernel) (by decide +kernel)) rfl ow_ok12 tyJ4_ok df_12 dX10_init_72 (by omega) (by omega) ?_
  refine or_dup E rfl dX10_init_75 ?_
  refine or_xI [] (cj4_init (Z := Z) (ow_nS_s _ _ _) (ow_nI_s _ _ _)) E G F lz_10_47 dX10_init_76 rfl (by decide) (by decide) ⟨by omega, by omega⟩ (Nat.le_of_ble_eq_true rfl) (fun r h1 q => ?_) (fun c' h1 hc' q => absurd q.1 (Nat.pos_iff_ne_zero.mp hc'))
  obtain ⟨rfl, rfl⟩ := q.2.1 rfl
  refine ot_putF (κ := raw10k 7 x) E F fl_10_48 (.object "java/lang/StringBuilder") ff_10_7 rfl rfl dX10_init_79 ((ow_nS_o _ _ (by omega)).trans ((ow_nS_o _ _ (by omega)).trans ((ow_nS_o _ _ (by omega)).trans (ow_nS_s _ _ _)))) rfl ?_
  refine or_re (re10 (n := 7) (by decide) rfl ((ow_nS_o _ _ (by omega)).trans ((ow_nS_o _ _ (by omega)).trans ((ow_nS_o _ _ (by omega)).trans (ow_nS_s _ _ _))))) ?_
  refine or_re (ow_re_o (κ1 := au_k x) (ow_nS_s _ _ _) (fun k => ?_)) ?_
  · unfold raw10k
    by_cases h : k < 8
    · rw [if_pos h]
    · rw [if_neg h]
      match k, h with
      | 0, h => exact absurd (by decide) h
      | 1, h => exact absurd (by decide) h
      | 2, h => exact absurd (by decide) h
      | 3, h => exact absurd (by decide) h
      | 4, h => exact absurd (by decide) h
      | 5, h => exact absurd (by decide) h
      | 6, h => exact absurd (by decide) h
      | 7, h => exact absurd (by decide) h
      | k + 8, _ => rfl

  refine or_iconst (v := nI 0) E rfl dX10_init_82 ?_
  refine or_istore_n E dX10_init_83 (by decide) ?_
  refine or_lv [(0, .ref x), (1, .int (nI 0))] rfl ?_
  refine cn_at ?_ (L84 3 0 _ _ _ (by omega) (by omega) ?_ ?_ ?_ ?_ ?_ (fun q hq => absurd hq (by omega)))
  · exact ⟨by omega, by omega, by omega⟩
  · repeat (first | exact bl.rf | refine bl.nS ?_ (by omega) | refine bl.nI ?_ (by omega) | refine bl.nV ?_ (by omega) | refine bl.u ?_ (by omega) | refine bl.tr ?_ a1 (by omega) | refine bl.tr ?_ a2 (by omega) | refine bl.tr ?_ a3 (by omega) | refine bl.tr ?_ a4 (by omega))
  · repeat (first | exact bl.rf | refine bl.nS ?_ (by omega) | refine bl.nI ?_ (by omega) | refine bl.nV ?_ (by omega) | refine bl.u ?_ (by omega) | refine bl.tr ?_ b1 (by omega) | refine bl.tr ?_ b2 (by omega) | refine bl.tr ?_ b3 (by omega) | refine bl.tr ?_ b4 (by omega))
  · repeat (first | exact bl.rf | refine bl.nS ?_ (by omega) | refine bl.nI ?_ (by omega) | refine bl.nV ?_ (by omega) | refine bl.u ?_ (by omega) | refine bl.tr ?_ c1 (by omega) | refine bl.tr ?_ c2 (by omega) | refine bl.tr ?_ c3 (by omega) | refine bl.tr ?_ c4 (by omega))
  · refine ⟨⟨ow_nS_s _ _ _, mkS_bx (x := x) (n := x + 52) ?_ d1.1 (by omega) (by omega), mkS_bx (x := x) (n := x + 103) ?_ d2.1 (by omega) (by omega), hsS_bx (x := x) (n := x + 513) ?_ d3.1 (by omega) (by omega), ?_, psS_bx (x := x) (n := x + 561) ?_ d4.1 (by omega) (by omega), ?_⟩, ⟨?_, ?_, ?_⟩, ⟨⟨kV_bx (x := x) (n := x + 52) ?_ d1.2 (by omega) (by omega), kV_bx (x := x) (n := x + 103) ?_ d2.2 (by omega) (by omega), fun i hi => kV_bx (x := x) (n := x + 513) ?_ (d3.2.1 i hi) (by omega) (by omega)⟩, ?_, ?_, ?_⟩, ⟨?_, fun i hi => ?_, fun j => ?_, ?_, ?_⟩, ?_, ?_⟩
    · repeat (first | exact bx.rf | refine bx.nS ?_ (by omega) | refine bx.nI ?_ (by omega) | refine bx.nV ?_ (by omega) | refine bx.u ?_ (by omega) | refine bx.bl a1 ?_ (by omega) | refine bx.bl a2 ?_ (by omega) | refine bx.bl a3 ?_ (by omega) | refine bx.bl a4 ?_ (by omega))
    · repeat (first | exact bx.rf | refine bx.nS ?_ (by omega) | refine bx.nI ?_ (by omega) | refine bx.nV ?_ (by omega) | refine bx.u ?_ (by omega) | refine bx.bl a1 ?_ (by omega) | refine bx.bl a2 ?_ (by omega) | refine bx.bl a3 ?_ (by omega) | refine bx.bl a4 ?_ (by omega))
    · repeat (first | exact bx.rf | refine bx.nS ?_ (by omega) | refine bx.nI ?_ (by omega) | refine bx.nV ?_ (by omega) | refine bx.u ?_ (by omega) | refine bx.bl a1 ?_ (by omega) | refine bx.bl a2 ?_ (by omega) | refine bx.bl a3 ?_ (by omega) | refine bx.bl a4 ?_ (by omega))
    · repeat (first | exact ow_nS_s _ _ _ | assumption | refine (ow_nS_o _ _ (by omega)).trans ?_ | refine (a4 _ (by omega)).trans ?_)
    · repeat (first | exact bx.rf | refine bx.nS ?_ (by omega) | refine bx.nI ?_ (by omega) | refine bx.nV ?_ (by omega) | refine bx.u ?_ (by omega) | refine bx.bl a1 ?_ (by omega) | refine bx.bl a2 ?_ (by omega) | refine bx.bl a3 ?_ (by omega) | refine bx.bl a4 ?_ (by omega))
    · repeat (first | exact ow_nS_s _ _ _ | assumption | refine (ow_nS_o _ _ (by omega)).trans ?_ | refine (a4 _ (by omega)).trans ?_)
    · repeat (first | exact ow_nS_s _ _ _ | assumption | refine (ow_nS_o _ _ (by omega)).trans ?_ | refine (a4 _ (by omega)).trans ?_)
    · repeat (first | exact ow_nS_s _ _ _ | assumption | refine (ow_nS_o _ _ (by omega)).trans ?_ | refine (a4 _ (by omega)).trans ?_)
    · simp [ow_u, ow_nV]
    · repeat (first | exact bx.rf | refine bx.nS ?_ (by omega) | refine bx.nI ?_ (by omega) | refine bx.nV ?_ (by omega) | refine bx.u ?_ (by omega) | refine bx.bl b1 ?_ (by omega) | refine bx.bl b2 ?_ (by omega) | refine bx.bl b3 ?_ (by omega) | refine bx.bl b4 ?_ (by omega))
    · repeat (first | exact bx.rf | refine bx.nS ?_ (by omega) | refine bx.nI ?_ (by omega) | refine bx.nV ?_ (by omega) | refine bx.u ?_ (by omega) | refine bx.bl b1 ?_ (by omega) | refine bx.bl b2 ?_ (by omega) | refine bx.bl b3 ?_ (by omega) | refine bx.bl b4 ?_ (by omega))
    · repeat (first | exact bx.rf | refine bx.nS ?_ (by omega) | refine bx.nI ?_ (by omega) | refine bx.nV ?_ (by omega) | refine bx.u ?_ (by omega) | refine bx.bl b1 ?_ (by omega) | refine bx.bl b2 ?_ (by omega) | refine bx.bl b3 ?_ (by omega) | refine bx.bl b4 ?_ (by omega))
    · repeat (first | rw [ow_nI_o _ (by omega)] | rw [b4 _ (by omega)])
      exact d3.2.2.1
    · repeat (first | rw [ow_nI_o _ (by omega)] | rw [b4 _ (by omega)])
      exact d3.2.2.2
    · repeat (first | rw [ow_nI_o _ (by omega)] | rw [b4 _ (by omega)])
      exact ow_nI_f _ _
    · exact cm_row (p := x + 515) d4.2.1 (by repeat (first | rw [ow_nI_o _ (by omega)] | rw [b4 _ (by omega)])) (fun i hi => by repeat (first | rw [ow_nI_o _ (by omega)] | rw [b4 _ (by omega)]))
    · refine ⟨?_, ?_⟩
      · repeat (first | rw [ow_nI_o _ (by omega)] | rw [b4 _ (by omega)])
        exact (d4.2.2.1 i hi).1
      · repeat (first | rw [ow_u_a _ _ _ _ (by omega)] | rw [ow_nV_o _ _ (by omega)])
        exact (d4.2.2.1 i hi).2
    · repeat (first | rw [ow_nI_o _ (by omega)] | rw [b4 _ (by omega)])
      exact d4.2.2.2.1 j
    · repeat (first | rw [ow_nI_o _ (by omega)] | rw [b4 _ (by omega)])
      exact d4.2.2.2.2.1
    · repeat (first | rw [ow_nI_o _ (by omega)] | rw [b4 _ (by omega)])
      exact d4.2.2.2.2.2
    · repeat (first | rw [ow_nI_o _ (by omega)] | rw [b4 _ (by omega)])
      exact ow_nI_f _ _
    · exact ow_nI_f _ _
  · repeat (first | exact ow_nS_s _ _ _ | assumption | refine (ow_nS_o _ _ (by omega)).trans ?_ | refine (a4 _ (by omega)).trans ?_)
