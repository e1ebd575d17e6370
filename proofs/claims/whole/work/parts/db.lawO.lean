/-! THE LAW'S CASES of the output -/
section LWO
variable {x m o B B' z : Nat} {I J2 : ow_I} {Z : Nat → Nat} {S : Nat → Option ow_Sh} {V : Nat → Nat → Value}
theorem nI_ij {a b : Nat} (h : nI a = nI b) (ha : a < 2 ^ 31) (hb : b < 2 ^ 31) : a = b := by
  have := congrArg tn h
  rw [tn_nI ha, tn_nI hb] at this
  exact this
theorem wl_c {f g : Nat → Nat} : ∀ N : Nat, (∀ j, j < N → f j = g j) → wl f N = wl g N := by
  intro N
  induction N with
  | zero => intro _; rfl
  | succ k ih =>
    intro h
    have e := ih (fun j hj => h j (by omega))
    have e2 := h k (by omega)
    simp only [wl, e, e2]
theorem wb_c {p : Nat × (Nat → Nat)} {sg pr pr' : Nat} (h : sg = 2 → pr = pr') : wb p sg pr = wb p sg pr' := by
  unfold wb
  by_cases c : sg = 2
  · rw [h c]
  · rw [if_neg c, if_neg c]
theorem auS_z {S1 : Nat → Option ow_Sh} (h : au_S S x) (e : ∀ b, b < x + 666 → S1 b = S b) : au_S S1 x := by
  have p : bl S S1 (x + 666) := e
  obtain ⟨h1, h2, h3, h4, h5, h6, h7, h8, h9⟩ := h
  exact ⟨(e _ (by omega)).trans h1, mkS_bl p h2 (by omega), mkS_bl p h3 (by omega), hsS_bx (x := x) p.bx h4 (by omega) (by omega), (e _ (by omega)).trans h5, (e _ (by omega)).trans h6, psS_bx (x := x) p.bx h7 (by omega) (by omega), (e _ (by omega)).trans h8, fun i hi => mkS_bl p (h9 i hi) (by omega)⟩
theorem mdS_z {S1 : Nat → Option ow_Sh} (h : md_S S m) (e : ∀ b, b < m + 8 → S1 b = S b) : md_S S1 m := by
  obtain ⟨h1, h2, h3, h4, h5, h6, h7, h8⟩ := h
  exact ⟨(e _ (by omega)).trans h1, (e _ (by omega)).trans h2, (e _ (by omega)).trans h3, (e _ (by omega)).trans h4, (e _ (by omega)).trans h5, (e _ (by omega)).trans h6, (e _ (by omega)).trans h7, (e _ (by omega)).trans h8⟩
variable {S1 : Nat → Option ow_Sh} {I1 : ow_I} {V1 : Nat → Nat → Value} {z1 b b1 n1 : Nat} {t1 : Nat → Nat}
/-- the class has written: the reference's rows are as they were -/
theorem lw_Jo (h : lwI Z x m o B S I V) (hz : o + 2 ≤ z) (hb : b = x + 563 ∨ o + 2 ≤ b) (k : sb_K (x + 562) b b1 (S, I, V, z) (S1, I1, V1, z1)) : RR x m B I I1 := by
  obtain ⟨-, -, -, k4⟩ := k
  have h2 := h.2.1
  have e : ∀ a, x + 666 ≤ a → a < o → I1 a = I a := fun a ha hc => (k4 a (show a < z by omega) (by omega) (by omega)).1
  exact RR_tr h.2.2.1 (fun _ _ => rfl) (fun b z1 z2 _ _ => e b (by omega) (by omega)) (fun k _ => by rw [e m (by omega) (by omega)])
/-- both have written -/
theorem lw_out (h : lwI Z x m o B S I V) (hz : o + 2 ≤ z) (hb : b = x + 563 ∨ o + 2 ≤ b) (k0 : sb_X (x + 562) b1 n1 t1 (S1, I1, V1, z1)) (k : sb_K (x + 562) b b1 (S, I, V, z) (S1, I1, V1, z1)) (hR : RR x m B' I J2) (hM : fW m I1 J2) (ho : ot m n1 t1 J2) {V2 : Nat → Nat → Value} (hV : ∀ a, a < o → V2 a = V1 a) : lwI Z x m o B' S1 J2 V2 := by
  obtain ⟨h1, h2, h3, h4, -⟩ := h
  obtain ⟨k1, k2, k3, k4⟩ := k
  have eS : ∀ a, a < z → S1 a = S a := k3
  have eI : ∀ a, a < z → a ≠ x + 562 → a ≠ b → I1 a = I a := fun a q1 q2 q3 => (k4 a q1 q2 q3).1
  have eV : ∀ a, a < z → a ≠ x + 562 → a ≠ b → V1 a = V a := fun a q1 q2 q3 => (k4 a q1 q2 q3).2
  have k2' : b1 = b ∨ z ≤ b1 := k2
  refine ⟨⟨auS_z h1.1 (fun b hb => eS b (by omega)), mdS_z h1.2.1 (fun b hb => eS b (by omega)), (eS _ (by omega)).trans h1.2.2.1, (eS _ (by omega)).trans h1.2.2.2⟩, h2, RR_tr hR (fun b2 hb2 => (hM b2 (by omega)).trans (eI b2 (by omega) (by omega) (by omega))) (fun _ _ _ _ _ => rfl) (fun _ _ => rfl), fun i hi => ?_, b1, n1, t1, ?_, ho, by omega⟩
  · rw [hV _ (by omega), eV _ (by omega) (by omega) (by omega), hM _ (by omega), eI _ (by omega) (by omega) (by omega)]
    exact h4 i hi
  · have e1 : J2 (x + 562) = I1 (x + 562) := hM _ (by omega)
    have e2 : J2 b1 = I1 b1 := hM _ (by omega)
    obtain ⟨g1, g2, g3, g4, q, g5, g6, g7, g8, g9⟩ := k0
    refine ⟨g1, ?_, ?_, ?_, q, g5, g6, g7, ?_, ?_⟩
    · show V2 (x + 562) 0 = .ref b1
      rw [hV _ (by omega)]; exact g2
    · show J2 (x + 562) 1 = 0
      rw [e1]; exact g3
    · show J2 (x + 562) 3 = nI n1
      rw [e1]; exact g4
    · show sb_Lat t1 n1 (J2 b1)
      rw [e2]; exact g8
    · show sb_Fit (J2 b1)
      rw [e2]; exact g9
/-- what writeBarrel's wrapper leaves -/
theorem wK_wb {w : Int32} {p : Nat × (Nat → Nat)} {r : Option Value} {h1 : ow_H} (hk : wK (wb_K x b w p S I V z) (wI o) [3] r h1) : (A_barrelAt x w I = 0 ∧ r = some (.int (nI 0)) ∧ ∃ (S1 : Nat → Option ow_Sh) (I1 : ow_I) (V1 : Nat → Nat → Value) (z1 b1 : Nat), h1 = (S1, I1, ow_u V1 o 0 (.long (nI p.1).toInt64), z1) ∧ sb_X (x + 562) b1 p.1 p.2 (S1, I1, V1, z1) ∧ sb_K (x + 562) b b1 (S, I, V, z) (S1, I1, V1, z1)) ∨ (A_barrelAt x w I = 3 ∧ r = some (.int (nI 1)) ∧ ∃ z1, h1 = (S, I, V, z1)) := by
  rcases hk with ⟨v, ⟨S1, I1, V1, z1⟩, ⟨e, f, -⟩, g1, i, g2, g3⟩ | ⟨c', hc, ⟨e, -, f⟩, g1⟩
  · obtain ⟨-, q1, b1, q2, q3⟩ := f rfl
    have : i = nI p.1 := by
      rw [q1] at g2
      simp only [Option.some.injEq, Value.int.injEq] at g2
      exact g2.symm
    subst this
    exact Or.inl ⟨e.symm, g1, S1, I1, V1, z1, b1, g3, q2, q3⟩
  · obtain ⟨-, z1, -, rfl⟩ := f hc
    rcases tb_bat (x := x) (b := w) (I := I) with h | h
    · omega
    · rw [e, h] at g1
      exact Or.inr ⟨h, g1, z1, rfl⟩
end LWO
set_option maxRecDepth 100000 in
set_option maxHeartbeats 400000 in
theorem lc_63 {X : ow_X} {cs sl : Nat} {Z : Nat → Nat} {b L i x m o B z : Nat} {xs : Nat → Int32} {S : Nat → Option ow_Sh} {I : ow_I} {V : Nat → Nat → Value} (W : lwE X Z b L xs) (hI : lwI Z x m o B S I V) (hB : B + 4000 < 2 ^ 29) (hi : i + 6 ≤ L) (hc : cs + 44 ≤ 601024) (hs : sl + 5596 ≤ 7293034) (tl : ∀ (S1 : Nat → Option ow_Sh) (I1 : ow_I) (V1 : Nat → Nat → Value) (z1 : Nat), lwI Z x m o (B + 4000) S1 I1 V1 → ow_W X (cs + 44) (sl + 5596) (S1, I1, V1, z1) 3148 (lwv b x m o i) []) : ow_W X cs sl (S, I, V, z) 3123 (lwv b x m o i) [] := by
  obtain ⟨E, G, GS, hL⟩ := id W
  have hX := hI.2.2.1.1.1
  obtain ⟨b2, n, t, hsb, ho, hb2⟩ := hI.2.2.2.2
  refine or_aload_n (j := 1) E rfl dL_law_3123 ?_
  refine or_arg (j := 1) W rfl rfl dL_law_3124 dL_law_3125 dL_law_3127 dL_law_3128 dL_law_3129 (by omega) ?_
  refine oy_V (st := []) [.int (xs (i + 1))] (cA_outputByte (w := xs (i + 1)) hI.1.1 hsb) E G lk_L_379 dL_law_3130 hI.1.1.1 rfl rfl rfl (by decide) (by decide) ⟨by omega, by omega⟩ (Nat.le_of_ble_eq_true rfl) oy_no (fun r h1 hk => ?_)
  obtain ⟨rfl, rfl⟩ := oy_eq hk
  have hJ := hI.2.2.1
  have hq := q_outputByte (w := xs (i + 1)) hJ ho
  refine or_aload_n (j := 2) E rfl dL_law_3133 ?_
  refine or_arg (j := 1) W rfl rfl dL_law_3134 dL_law_3135 dL_law_3137 dL_law_3138 dL_law_3139 (by omega) ?_
  refine or_cV1r (cM_outputByte (i := xs (i + 1)) hI.1.2.1 (by rw [ho.1]; exact nI_ge0 (by have := ho.2.1; omega)) (by rw [ho.1, tn_nI (by have := ho.2.1; omega)]; exact ho.2.1)) E lk_L_382 dL_law_3140 hI.1.2.1.1 rfl rfl (by decide) (by decide) ⟨by omega, by omega⟩ (Nat.le_of_ble_eq_true rfl) ?_
  have hst := lw_step hI fA_r (RR_up hq.2.2.1 (show B ≤ B + 4000 by omega)) (fM_outputByte (a := xs (i + 1))) hI.2.2.2.1 rfl
  refine or_icmp_eq 3148 E dL_law_3143 rfl (fun _ => ?_) (fun hne => (hne hq.1).elim)
  exact or_wd (by omega) (by omega) (tl _ _ _ _ hst)
set_option maxRecDepth 100000 in
set_option maxHeartbeats 400000 in
theorem lc_62 {X : ow_X} {cs sl : Nat} {Z : Nat → Nat} {b L i x m o B z : Nat} {xs : Nat → Int32} {S : Nat → Option ow_Sh} {I : ow_I} {V : Nat → Nat → Value} (W : lwE X Z b L xs) (hI : lwI Z x m o B S I V) (hB : B + 4000 < 2 ^ 29) (hi : i + 6 ≤ L) (hc : cs + 44 ≤ 601024) (hs : sl + 5596 ≤ 7293034) (tl : ∀ (S1 : Nat → Option ow_Sh) (I1 : ow_I) (V1 : Nat → Nat → Value) (z1 : Nat), lwI Z x m o (B + 4000) S1 I1 V1 → ow_W X (cs + 44) (sl + 5596) (S1, I1, V1, z1) 3148 (lwv b x m o i) []) : ow_W X cs sl (S, I, V, z) 3110 (lwv b x m o i) [] := by
  obtain ⟨E, G, GS, hL⟩ := id W
  have hX := hI.2.2.1.1.1
  obtain ⟨b2, n, t, hsb, ho, hb2⟩ := hI.2.2.2.2
  refine or_ltz (fun hlt => ?_)
  have hz : o + 2 ≤ z := by
    have := hlt _ _ hI.1.2.2.2
    omega
  obtain ⟨N, f, q1, q2, q3, q4, -⟩ := r_writeQueue hI.2.2.1
  refine or_aload_n (j := 1) E rfl dL_law_3110 ?_
  refine oy_V (st := []) [] (cA_writeQueue hI.1.1 hsb q1 q2 q3 q4) E G lk_L_375 dL_law_3111 hI.1.1.1 rfl rfl rfl (by decide) (by decide) ⟨by omega, by omega⟩ (Nat.le_of_ble_eq_true rfl) (fun c' _ h0 hk => by have := hk.1; omega) (fun r h1 hk => ?_)
  obtain ⟨-, rfl, b1, k0, k⟩ := hk
  obtain ⟨S1, I1, V1, z1⟩ := h1
  have hJ := lw_Jo hI hz hb2 k
  obtain ⟨N', f', p1, p2, p3, p4, p5, p6, p7, p8⟩ := r_writeQueue hJ
  obtain rfl : N' = N := nI_ij (p1.symm.trans q1) (by omega) (by omega)
  have ew : wl f' N' = wl f N' := wl_c N' (fun j hj => nI_ij ((p4 j hj).1.symm.trans (q4 j hj).1) (p4 j hj).2 (q4 j hj).2)
  rw [ew] at p5 p6
  have hM : md_S S1 m := mdS_z hI.1.2.1 (fun b hb => k.2.2.1 b (show b < z by have := hI.2.1; omega))
  refine or_aload_n (j := 2) E rfl dL_law_3114 ?_
  refine or_cV0r (cM_writeQueue hM hJ.2.1.2.1) E lk_L_378 dL_law_3115 hM.1 rfl rfl (by decide) (by decide) ⟨by omega, by omega⟩ (Nat.le_of_ble_eq_true rfl) ?_
  have hst := lw_out hI hz hb2 k0 k (RR_up p8 (show B ≤ B + 4000 by omega)) fW_writeQueue p6 (fun _ _ => rfl)
  refine or_icmp_eq 3148 E dL_law_3118 rfl (fun _ => ?_) (fun hne => (hne p5.symm).elim)
  exact or_wd (by omega) (by omega) (tl _ _ _ _ hst)
set_option maxRecDepth 100000 in
set_option maxHeartbeats 400000 in
theorem lc_61 {X : ow_X} {cs sl : Nat} {Z : Nat → Nat} {b L i x m o B z : Nat} {xs : Nat → Int32} {S : Nat → Option ow_Sh} {I : ow_I} {V : Nat → Nat → Value} (W : lwE X Z b L xs) (hI : lwI Z x m o B S I V) (hB : B + 4000 < 2 ^ 29) (hi : i + 6 ≤ L) (hc : cs + 44 ≤ 601024) (hs : sl + 5596 ≤ 7293034) (tl : ∀ (S1 : Nat → Option ow_Sh) (I1 : ow_I) (V1 : Nat → Nat → Value) (z1 : Nat), lwI Z x m o (B + 4000) S1 I1 V1 → ow_W X (cs + 44) (sl + 5596) (S1, I1, V1, z1) 3148 (lwv b x m o i) []) : ow_W X cs sl (S, I, V, z) 3054 (lwv b x m o i) [] := by
  obtain ⟨E, G, GS, hL⟩ := id W
  have hX := hI.2.2.1.1.1
  obtain ⟨b2, n, t, hsb, ho, hb2⟩ := hI.2.2.2.2
  refine or_ltz (fun hlt => ?_)
  have hz : o + 2 ≤ z := by
    have := hlt _ _ hI.1.2.2.2
    omega
  refine or_aload_n (j := 1) E rfl dL_law_3054 ?_
  refine or_arg (j := 1) W rfl rfl dL_law_3055 dL_law_3056 dL_law_3058 dL_law_3059 dL_law_3060 (by omega) ?_
  refine or_aload_n (j := 3) E rfl dL_law_3061 ?_
  rcases r_writeBarrel (w := xs (i + 1)) hI.2.2.1 with ⟨c0, K, f, sg, pr, q, -⟩ | ⟨c3, r18, r1, r2, r3⟩
  · refine oy_S (st := []) [.ref x, .int (xs (i + 1)), .ref o] (wL_writeBarrel (cA_writeBarrel (w := xs (i + 1)) hI.1.1 hX.1 hsb (fun _ => q)) hI.1.1.1 (fun r h0 hk => ⟨_, (hk.2.1 rfl).2.1, by obtain ⟨b1, -, k⟩ := (hk.2.1 rfl).2.2; exact (k.2.2.1 o (show o < z by omega)).trans hI.1.2.2.1⟩) (fun c' h1 h0 hk => by have e : c' = A_barrelAt x (xs (i + 1)) I := hk.1; rw [e] at h0 ⊢; exact tb_bat.resolve_left (by omega))) E G lh_L_372 dL_law_3062 rfl (by decide) (by decide) ⟨by omega, by omega⟩ (Nat.le_of_ble_eq_true rfl) (fun r h1 hk => ?_)
    rcases wK_wb hk with ⟨-, rfl, S1, I1, V1, z1, b1, rfl, k0, k⟩ | ⟨c3, -⟩
    · have hJ := lw_Jo hI hz hb2 k
      have hM : md_S S1 m := mdS_z hI.1.2.1 (fun b hb => k.2.2.1 b (show b < z by have := hI.2.1; omega))
      have ho1 : S1 o = some (.inr (.long, 1, ol_l)) := (k.2.2.1 o (show o < z by omega)).trans hI.1.2.2.1
      rcases r_writeBarrel (w := xs (i + 1)) hJ with ⟨-, K', f', sg', pr', q', p5, p6, p7, p8⟩ | ⟨c3, -⟩
      · obtain rfl : K' = K := nI_ij (q'.1.symm.trans q.1) (by have := q'.2.1; omega) (by have := q.2.1; omega)
        obtain rfl : sg' = sg := nI_ij (q'.2.2.2.1.symm.trans q.2.2.2.1) q'.2.2.2.2.1 q.2.2.2.2.1
        have ew : wl f' K' = wl f K' := wl_c K' (fun j hj => nI_ij ((q'.2.2.1 j hj).1.symm.trans (q.2.2.1 j hj).1) (q'.2.2.1 j hj).2 (q.2.2.1 j hj).2)
        have ep : wb (wl f' K') sg' pr' = wb (wl f K') sg' pr := by
          rw [ew]
          exact wb_c (fun h2 => nI_ij ((q'.2.2.2.2.2.2 h2).1.symm.trans (q.2.2.2.2.2.2 h2).1) (q'.2.2.2.2.2.2 h2).2 (q.2.2.2.2.2.2 h2).2)
        rw [ep] at p5 p6
        refine or_istore E dL_law_3065 (by decide) ?_
        refine or_aload_n (j := 2) E rfl dL_law_3067 ?_
        refine or_arg (j := 1) W rfl rfl dL_law_3068 dL_law_3069 dL_law_3071 dL_law_3072 dL_law_3073 (by omega) ?_
        refine or_cV1r (cM_writeBarrel (b := xs (i + 1)) hM hJ.2.1.2.1) E lk_L_374 dL_law_3074 hM.1 rfl rfl (by decide) (by decide) ⟨by omega, by omega⟩ (Nat.le_of_ble_eq_true rfl) ?_
        refine or_istore E dL_law_3077 (by decide) ?_
        have hst := lw_out hI hz hb2 k0 k (RR_up p8 (show B ≤ B + 4000 by omega)) fW_writeBarrel p6 (V2 := ow_u V1 o 0 (.long (nI (wb (wl f K') sg' pr).1).toInt64)) (fun a ha => by funext j; exact ow_u_a _ _ _ _ (by omega) j)
        refine or_fin W hM p7 (by decide) ho1 (fun _ => by rw [p5]; exact ow_u_s _ _ _ _) rfl rfl rfl rfl (by omega) (by omega) dL_law_3079 dL_law_3080 dL_law_3083 dL_law_3085 dL_law_3090 dL_law_3092 dL_law_3095 dL_law_3096 dL_law_3097 dL_law_3098 dL_law_3100 dL_law_3101 dL_law_3102 ?_
        exact or_goto 3148 E dL_law_3107 rfl (or_lv (lwv b x m o i) rfl (or_wd (by omega) (by omega) (tl _ _ _ _ hst)))
      · exact absurd (c0.symm.trans c3) (by decide)
    · exact absurd (c0.symm.trans c3) (by decide)
  · refine oy_S (st := []) [.ref x, .int (xs (i + 1)), .ref o] (wL_writeBarrel (cA_writeBarrel (k := 0) (sg := 0) (pr := 0) (f := fun _ => 0) (w := xs (i + 1)) hI.1.1 hX.1 hsb (fun h0 => absurd (h0.symm.trans c3) (by decide))) hI.1.1.1 (fun r h0 hk => ⟨_, (hk.2.1 rfl).2.1, by obtain ⟨b1, -, k⟩ := (hk.2.1 rfl).2.2; exact (k.2.2.1 o (show o < z by omega)).trans hI.1.2.2.1⟩) (fun c' h1 h0 hk => by have e : c' = A_barrelAt x (xs (i + 1)) I := hk.1; rw [e] at h0 ⊢; exact tb_bat.resolve_left (by omega))) E G lh_L_372 dL_law_3062 rfl (by decide) (by decide) ⟨by omega, by omega⟩ (Nat.le_of_ble_eq_true rfl) (fun r h1 hk => ?_)
    rcases wK_wb hk with ⟨c0, -⟩ | ⟨-, rfl, z1, rfl⟩
    · exact absurd (c0.symm.trans c3) (by decide)
    · have hJ := hI.2.2.1
      refine or_istore E dL_law_3065 (by decide) ?_
      refine or_aload_n (j := 2) E rfl dL_law_3067 ?_
      refine or_arg (j := 1) W rfl rfl dL_law_3068 dL_law_3069 dL_law_3071 dL_law_3072 dL_law_3073 (by omega) ?_
      refine or_cV1r (cM_writeBarrel (b := xs (i + 1)) hI.1.2.1 hJ.2.1.2.1) E lk_L_374 dL_law_3074 hI.1.2.1.1 rfl rfl (by decide) (by decide) ⟨by omega, by omega⟩ (Nat.le_of_ble_eq_true rfl) ?_
      refine or_istore E dL_law_3077 (by decide) ?_
      have hst := lw_step hI fA_r (RR_up r1 (show B ≤ B + 4000 by omega)) ⟨fun b hb => by
        by_cases e : b = m + 6
        · rw [e]; exact r3
        · exact fW_writeBarrel b (by omega), r2⟩ hI.2.2.2.1 rfl
      refine or_fin W hI.1.2.1 r18 (by decide) hI.1.2.2.1 (fun h => absurd h (by decide)) rfl rfl rfl rfl (by omega) (by omega) dL_law_3079 dL_law_3080 dL_law_3083 dL_law_3085 dL_law_3090 dL_law_3092 dL_law_3095 dL_law_3096 dL_law_3097 dL_law_3098 dL_law_3100 dL_law_3101 dL_law_3102 ?_
      exact or_goto 3148 E dL_law_3107 rfl (or_lv (lwv b x m o i) rfl (or_wd (by omega) (by omega) (tl _ _ _ _ hst)))
