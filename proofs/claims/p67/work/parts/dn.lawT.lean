set_option maxRecDepth 100000
theorem lk_120_264 : ow_lt RX120 264 yL_begun cL_begun 11 (some (.array .int)) 2 := ⟨ow_T_in 574 (by decide +kernel) (by decide +kernel), ow_T_in 575 (by decide +kernel) (by decide +kernel), ow_T_in 0 (by decide +kernel) (by decide +kernel), ow_T_in 576 (by rfl) (by decide +kernel), ⟨by decide +kernel, by decide +kernel, by decide +kernel⟩⟩
theorem lk_120_268 : ow_lt RX120 268 yL_acted cL_acted 18 (some .boolean) 4 := ⟨ow_T_in 919 (by decide +kernel) (by decide +kernel), ow_T_in 920 (by decide +kernel) (by decide +kernel), ow_T_in 0 (by decide +kernel) (by decide +kernel), ow_T_in 921 (by rfl) (by decide +kernel), ⟨by decide +kernel, by decide +kernel, by decide +kernel⟩⟩
theorem lk_120_272 : ow_lt RX120 272 yL_seen cL_seen 12 (some .boolean) 1 := ⟨ow_T_in 1245 (by decide +kernel) (by decide +kernel), ow_T_in 1246 (by decide +kernel) (by decide +kernel), ow_T_in 0 (by decide +kernel) (by decide +kernel), ow_T_in 1247 (by rfl) (by decide +kernel), ⟨by decide +kernel, by decide +kernel, by decide +kernel⟩⟩
theorem lk_120_276 : ow_lt RX120 276 yL_foretold cL_foretold 8 (some .boolean) 3 := ⟨ow_T_in 1281 (by decide +kernel) (by decide +kernel), ow_T_in 1282 (by decide +kernel) (by decide +kernel), ow_T_in 0 (by decide +kernel) (by decide +kernel), ow_T_in 1283 (by decide +kernel) (by decide +kernel), ⟨by decide +kernel, by decide +kernel, by decide +kernel⟩⟩
theorem lz_120_263 : ow_lz RX120 263 yX10_init cX10_init 2 0 := ⟨ow_T_in 32 (by decide +kernel) (by decide +kernel), ow_T_in 33 (by decide +kernel) (by decide +kernel), ow_T_in 1 (by decide +kernel) (by decide +kernel), ow_T_in 34 (by decide +kernel) (by decide +kernel), rfl, ⟨by decide +kernel, by decide +kernel, by decide +kernel⟩⟩
theorem oy_T {X : ow_X} {cs sl : Nat} {h : ow_H} {pc : Nat} {lv : List (Nat × Value)} {st : List Value} {own : String} {cc : ByteArray} {nL kR mcR msR : Nat} {Z : Nat → Nat} {y : MethodName} {cy : ByteArray} {n idx k mc ms na : Nat} {ret : Option FieldType} {Kc : Nat → Option Value → ow_H → Prop} (As : List Value) (hC : ow_Cx Z y cy n ret k mc ms As h Kc) (E : ow_E X own cc nL (ow_rm kR mcR msR)) (G : og_G X Z) (L : ow_lt own idx y cy n ret na) (d : decode cc pc = .ok (.invokestatic idx, 3))
    (hn : As.length = na) (hk : k + 1 ≤ kR) (hn2 : n ≤ 20) (hm : cs + mc ≤ mcR ∧ sl + ms ≤ msR) (hst : (st.map fun v => v.category).sum ≤ 8) (hno : ∀ (c' : Nat) (h1 : ow_H), 0 < c' → Kc c' none h1 → False)
    (kk : ∀ (r : Option Value) (h1 : ow_H), Kc 0 r h1 → ow_W X (cs + mc) (sl + ms) h1 (pc + 3) lv (r.toList ++ st)) : ow_W X cs sl h pc lv (As.reverse ++ st) := by
  obtain ⟨p, l, e, R, s, m, args, below, meth, c, Q, D, A⟩ := X
  obtain ⟨hx, hb, hown, hts, hK, hA, hml, rfl⟩ := E
  obtain ⟨w1, w2, w3, w4, w5⟩ := L
  intro H locs ls hR hD hSS hl
  have hGI : GoodIn ow_T (va_wsS own idx y (Cond.code y cy n ret :: ow_T)) := fun w hw => by
    have hw' : w = Cond.methodLink own idx y ∨ w = Cond.static y ∨ w = Cond.initialized y.cls ∨ w ∈ (Cond.code y cy n ret :: ow_T) := by simpa [va_wsS] using hw
    rcases hw' with rfl | rfl | rfl | h1
    · exact ow_T_good _ w1
    · exact ow_T_good _ w2
    · exact ow_T_good _ w3
    · exact ow_good_code w4 w h1
  have cw := va_cwS (R := ow_rm kR mcR msR) (rm := ow_rm k mc ms) (mc := mc) (ms := ms) na hts hGI rfl rfl rfl w5 ⟨hk, by show 8 + (n + 11) + 40 * k ≤ 40 * kR; omega⟩
  exact oy_after hR hD hA hSS hl (vx_runS (As := As) (rest := st) ⟨hx, hb, rfl, hown, hts⟩ (hC l D G.2) cw ⟨ox_Pc_blind Z D _ h, fun U hU hW => ⟨⟨rfl, by rw [hU]; exact hR.moved hW.alike, va_K.moved hW.alike hK⟩, ox_gl G.1 hR hD hA hSS hU hW⟩⟩ rfl hn hl.1 rfl (lv_room hst) d hm) kk
    (fun c' h1 _ _ _ _ hc' hk' _ _ _ _ _ _ => (hno c' h1 hc' hk').elim)
theorem df_10 : ∀ k, k < 8 → defaultValue (tyX10 k) = ow_v (raw10 k) 0 .null := fun k hk => match k, hk with | 0, _ => rfl | 1, _ => rfl | 2, _ => rfl | 3, _ => rfl | 4, _ => rfl | 5, _ => rfl | 6, _ => rfl | 7, _ => rfl | k + 8, h => absurd h (by omega)
theorem au_ini {Z : Nat → Nat} {x : Nat} {S1 : Nat → Option ow_Sh} {I0 : ow_I} {V1 : Nat → Nat → Value} (hP : ai_P Z x S1 I0 V1) : au_V x (ai_I x I0) := by
  obtain ⟨-, ⟨-, -, ⟨⟨k1, k2, k3⟩, o1, o2, sv⟩, ⟨cm0, -, inp, er1, er2⟩, -, -⟩, k4⟩ := hP
  have hin0 : in_R (I0 (x + 515 + 1)) := ⟨by rw [inp]; decide, by rw [inp]; decide, by rw [inp]; decide⟩
  have hinU := @in_as (x + 515 + 1) 9 I0 hin0
  have u3 : ∀ b, b ≠ x + 515 + 1 → b ≠ x + 515 + 1 + 1 → U_addSigns (x + 515 + 1) 9 I0 b = I0 b := fun b h1 h2 => rr_as h1 h2
  unfold ai_I
  generalize U_addSigns (x + 515 + 1) 9 I0 = U at hinU u3 ⊢
  have hT := pT_rset (p := x + 515) (a := x + 1) (I := U) (J := U) ⟨hinU, kV_eq k1 (fun b z1 z2 => u3 b (by omega) (by omega)), fun _ _ _ => rfl⟩ (by omega)
  have e : ∀ b, (b < x + 515 ∨ x + 561 ≤ b) → (b < x + 1 ∨ x + 52 ≤ b) → ow_u (Q_readSetup (x + 515) (x + 1) U).2 (x + 515 + 1) 1 (nI 0) b = I0 b := fun b h1 h2 => by rw [rr_u (by omega), hT.2.2 b (by omega) (by omega)]; exact u3 b (by omega) (by omega)
  refine ⟨kV_eq hT.2.1 (fun b h1 h2 => rr_u (by omega)), kV_eq k2 (fun b h1 h2 => e b (by omega) (by omega)), fun i hi => kV_eq (k3 i hi) (fun b h1 h2 => e b (by omega) (by omega)), fun i hi => kV_eq (k4 i hi) (fun b h1 h2 => e b (by omega) (by omega)), by rw [e (x + 103) (by omega) (by omega), o1]; decide, in_1 hT.1 (by decide)⟩
/-- what the pure part shows -/
def PU (w : Nat → Nat → Nat) : Prop :=
  (∀ (x m B g : Nat) (I : ow_I), LI B x m I → B ≤ 2000 → g ≤ 1000 → qAct x m I ∧ (L_acted x m 0 g w I).1 = true ∧ LI (B + 8) x m (L_acted x m 0 g w I).2) ∧
  (∀ (x m B : Nat) (b : Int32) (I : ow_I), LI B x m I → B ≤ 2000 → (0 ≤ b ∧ tn b < tn (I (x + 1) 10)) → qFor B x m b I ∧ qMin x m ∧ (L_foretold x m b I).1 = true ∧ LI (B + 50) x m (L_foretold x m b I).2) ∧
  (∀ (x : Nat) (I J : ow_I), au_V x I → begJ x w I J → begQ x w J) ∧
  (∀ (x q : Nat) (I J J3 : ow_I), au_V x I → begJ x w I J → x + 666 ≤ q → (∀ a, a < q → J3 a = (A_loadSetup x J).2 a) → J3 q 0 = nI (5 + w 0 30) → J3 q 1 = nI (1 + w 1 (5 + w 0 30)) → J3 q 2 = nI (1 + w 2 4) → J3 q 3 = nI (w 3 51) → LI 0 x q J3)
theorem li_ce {B x q : Nat} {I : ow_I} (h : LI B x q I) : A_coinError x I = 0 := h.2.2.2.1.2.2.2.2.1
set_option maxRecDepth 100000 in
set_option maxHeartbeats 4000000 in
theorem lw_begin {X : ow_X} {Z : Nat → Nat} {z : Nat} (E : ow_E X RX120 code 4 (ow_rm 14 600086 7301442)) (G : og_G X Z) (hPU : PU (pkf Z)) (fin : ∀ (h : ow_H) (lv : List (Nat × Value)) (cs sl : Nat), cs ≤ 600086 → sl ≤ 7301442 → ow_W X cs sl h 114 lv [.int (nI 1)]) : ow_W X 0 0 (fun _ => none, fun _ _ => 0, fun _ _ => .null, z) 0 (lv_args 0 [.ref (Z 34)]) [] := by
  obtain ⟨pu1, pu2, pu3, pu4⟩ := hPU
  refine or_lv [(0, .ref (Z 34))] rfl ?_
  refine or_newO (f := fun _ => .null) (ci := 10) (κ := raw10) E (ow_T_in 30 (by decide +kernel) (by decide +kernel)) (ow_T_in 31 (by decide +kernel) (by decide +kernel)) (ow_T_in 1 (by decide +kernel) (by decide +kernel)) rfl ow_ok10 tyX10_ok df_10 dL_law_0 (by omega) (by omega) ?_
  refine or_dup E rfl dL_law_3 ?_
  refine oy_I (st := [.ref z]) [] (cA_init (Z := Z) (x := z) (ow_nS_s _ _ _)) E G lz_120_263 dL_law_4 rfl (by decide) (by decide) ⟨by omega, by omega⟩ (Nat.le_of_ble_eq_true rfl) (fun c' _ h0 hk => by have := hk.1; omega) (fun r h1 hk => ?_)
  obtain ⟨-, rfl, S1, I1, V1, rfl, -, -, -, I0, eI, hP⟩ := hk
  have hX := au_ini hP
  rw [← eI] at hX
  have h_x := hP.1
  refine or_ltz (fun hlt => ?_)
  refine or_astore_n E dL_law_7 (by decide) ?_
  refine or_aload_n E rfl dL_law_8 ?_
  refine or_aload_n E rfl dL_law_9 ?_
  refine oy_T (st := []) [.ref z, .ref (Z 34)] (tL_begun (Z := Z) (x := z) h_x hX (Nat.le_refl _) hlt rfl (fun J hJ => pu3 z I1 J hX hJ)) E G lk_120_264 dL_law_10 rfl (by decide) (by decide) ⟨by omega, by omega⟩ (Nat.le_of_ble_eq_true rfl) (fun c' _ h0 hk => by have := hk.1; omega) (fun r h1 hk => ?_)
  obtain ⟨-, J, J3, q, z1, rfl, hq1, hq2, rfl, hJ, e3, m0, m1, m2, m3⟩ := hk
  have hI := pu4 z q I1 J J3 hX hJ hq1 e3 m0 m1 m2 m3
  have h_x : au_S (iA S1 q 4) z := au_bl (n := q) (fun b hb => ow_nS_o _ _ (by omega)) h_x hq1
  have h_m : m4_S (iA S1 q 4) q := ow_nS_s _ _ _
  generalize iA S1 q 4 = S at h_x h_m ⊢
  clear m0 m1 m2 m3 hJ e3 hlt hP eI hX
  refine or_astore_n E dL_law_13 (by decide) ?_
  refine or_aload_n E rfl dL_law_14 ?_
  refine or_ifnonnull 20 E dL_law_15 rfl ?_
  refine or_iconst (v := nI 0) E rfl dL_law_20 ?_
  refine or_istore_n E dL_law_21 (by decide) ?_
  have A95 : ∀ (cs sl B zz : Nat) (J : ow_I), LI B z q J → cs ≤ 3000 → sl ≤ 200000 → ow_W X cs sl (S, J, V1, zz) 95 [(0, .ref (Z 34)), (1, .ref z), (2, .ref q)] [] := by
    intro cs sl B zz J hI hcs hsl
    refine or_aload_n E rfl dL_law_95 ?_
    refine oy_T (st := []) [.ref z] (tL_seen (Z := Z) h_x hI) E G lk_120_272 dL_law_96 rfl (by decide) (by decide) ⟨by omega, by omega⟩ (Nat.le_of_ble_eq_true rfl) (fun c' _ h0 hk => by have := hk.1; omega) (fun r h1 hk => ?_)
    obtain ⟨-, rfl, z2, hz2, rfl⟩ := hk
    refine or_if_eqZ 113 E dL_law_99 rfl (fun h => absurd h (by decide)) (fun _ => ?_)
    refine or_aload_n E rfl dL_law_102 ?_
    refine oy_V (st := []) [] (cA_coinError (Z := Z) h_x hI.1) E G lk_120_211 dL_law_103 h_x.1 rfl rfl rfl (by decide) (by decide) ⟨by omega, by omega⟩ (Nat.le_of_ble_eq_true rfl) (fun c' _ h0 hk => by have := hk.1; omega) (fun r h1 hk => ?_)
    obtain ⟨rfl, rfl⟩ := hk.2.1 rfl
    rw [li_ce hI]
    refine or_if_ne 113 E dL_law_106 rfl (fun h => absurd rfl h) (fun _ => ?_)
    refine or_iconst (v := nI 1) E rfl dL_law_109 ?_
    refine or_goto 114 E dL_law_110 rfl ?_
    exact fin _ _ _ _ (by omega) (by omega)
  have L22 : ∀ (n i B zz : Nat) (J : ow_I), i ≤ 40 → B ≤ 8 * i → LI B z q J → 40 - i < n → ow_W X (1100 + 22 * i) (110000 + 192 * i) (S, J, V1, zz) 22 [(0, .ref (Z 34)), (1, .ref z), (2, .ref q), (3, .int (nI i))] [] := by
    intro n
    induction n with
    | zero => intro i B zz J h1 h2 h3 h4; omega
    | succ n ih =>
      intro i B zz J hi hB hI hn
      refine or_iload_n E rfl dL_law_22 ?_
      refine or_bipush (v := nI 40) E rfl dL_law_23 ?_
      refine or_icmp_geN 69 E dL_law_25 rfl (by omega) (by decide) (fun q25 => ?_) (fun q25 => ?_)
      · have n10 := mk_nbar hI.2.2.1
        refine or_aload_n E rfl dL_law_69 ?_
        refine oy_V (st := []) [] (cA_barrelCount (Z := Z) h_x) E G lk_120_177 dL_law_70 h_x.1 rfl rfl rfl (by decide) (by decide) ⟨by omega, by omega⟩ (Nat.le_of_ble_eq_true rfl) (fun c' _ h0 hk => by have := hk.1; omega) (fun r h1 hk => ?_)
        obtain ⟨rfl, rfl⟩ := hk.2.1 rfl
        refine or_if_eq 95 E dL_law_73 rfl (fun _ => ?_) (fun q73 => ?_)
        · exact or_lv _ rfl (A95 _ _ B zz J hI (by omega) (by omega))
        refine or_aload_n E rfl dL_law_76 ?_
        refine or_aload_n E rfl dL_law_77 ?_
        refine or_aload_n E rfl dL_law_78 ?_
        refine or_sipush (v := nI 190) E rfl dL_law_79 ?_
        refine or_aload_n E rfl dL_law_82 ?_
        refine oy_V (st := [.int (nI 190), .ref (Z 34), .ref q, .ref z]) [] (cA_barrelCount (Z := Z) h_x) E G lk_120_177 dL_law_83 h_x.1 rfl rfl rfl (by decide) (by decide) ⟨by omega, by omega⟩ (Nat.le_of_ble_eq_true rfl) (fun c' _ h0 hk => by have := hk.1; omega) (fun r h1 hk => ?_)
        obtain ⟨rfl, rfl⟩ := hk.2.1 rfl
        have hc0 : 0 < tn (A_barrelCount z J) := Nat.pos_of_ne_zero (fun h => q73 (by rw [show A_barrelCount z J = nI (tn (A_barrelCount z J)) from (nI_tn n10.1).symm, h]; rfl))
        refine or_top (nI_tn (x := A_barrelCount z J) n10.1).symm ?_
        refine oy_T (st := [.ref q, .ref z]) [.ref (Z 34), .int (nI 190), .int (nI (tn (A_barrelCount z J)))] (tL_pick (Z := Z) (k := 190) (n := tn (A_barrelCount z J)) (by decide) hc0 (by have : tn (A_barrelCount z J) ≤ 20 := n10.2; omega)) E G lk_120_27 dL_law_86 rfl (by decide) (by decide) ⟨by omega, by omega⟩ (Nat.le_of_ble_eq_true rfl) (fun c' _ h0 hk => by have := hk.1; omega) (fun r h1 hk => ?_)
        obtain ⟨rfl, rfl⟩ := hk.2.1 rfl
        have hb : 0 ≤ nI (pkf Z 190 (tn (A_barrelCount z J))) ∧ tn (nI (pkf Z 190 (tn (A_barrelCount z J)))) < tn (J (z + 1) 10) := vy_w (pkf_lt Z 190 hc0) n10.2
        obtain ⟨f1, f2, f3, f4⟩ := pu2 z q B _ J hI (by omega) hb
        refine oy_T (st := []) [.ref z, .ref q, .int (nI (pkf Z 190 (tn (A_barrelCount z J))))] (tL_foretold (Z := Z) h_x h_m hI hb (by omega) f1 f2) E G lk_120_276 dL_law_89 rfl (by decide) (by decide) ⟨by omega, by omega⟩ (Nat.le_of_ble_eq_true rfl) (fun c' _ h0 hk => by have := hk.1; omega) (fun r h1 hk => ?_)
        obtain ⟨rfl, rfl⟩ := hk.2.1 rfl
        rw [f3]
        refine or_if_eqZ 113 E dL_law_92 rfl (fun h => absurd h (by decide)) (fun _ => ?_)
        exact or_lv _ rfl (A95 _ _ (B + 50) zz _ f4 (by omega) (by omega))
      · refine or_aload_n E rfl dL_law_28 ?_
        refine or_aload_n E rfl dL_law_29 ?_
        refine or_aload_n E rfl dL_law_30 ?_
        refine or_bipush (v := nI 67) E rfl dL_law_31 ?_
        refine or_iconst (v := nI 3) E rfl dL_law_33 ?_
        refine or_iload_n E rfl dL_law_34 ?_
        refine or_imulN E dL_law_35 ?_
        refine or_iaddN E dL_law_36 ?_
        obtain ⟨⟨a1, a2, a3, a4, a5, a6, a7⟩, b1, b2⟩ := pu1 z q B (67 + 3 * i) J hI (by omega) (by omega)
        refine oy_T (st := []) [.ref z, .ref q, .ref (Z 34), .int (nI (67 + 3 * i))] (tL_acted (Z := Z) (sc := 0) h_x h_m hI rfl (by omega) (by omega) a1 a2 a3 a4 a5 a6 a7) E G lk_120_268 dL_law_37 rfl (by decide) (by decide) ⟨by omega, by omega⟩ (Nat.le_of_ble_eq_true rfl) (fun c' _ h0 hk => by have := hk.1; omega) (fun r h1 hk => ?_)
        obtain ⟨-, rfl, z2, hz2, rfl⟩ := hk
        rw [b1]
        refine or_if_neZ 45 E dL_law_40 rfl (fun _ => ?_) (fun h => absurd h (by decide))
        refine or_iload_n E rfl dL_law_45 ?_
        refine or_bipush (v := nI 10) E rfl dL_law_46 ?_
        refine or_iremN E dL_law_48 (by omega) (by decide) (by decide) ?_
        refine or_bipush (v := nI 9) E rfl dL_law_49 ?_
        refine or_icmp_neN 63 E dL_law_51 rfl (by omega) (by decide) (fun q51 => ?_) (fun q51 => ?_)
        · refine or_iincN (c := 1) E dL_law_63 rfl rfl (by decide) ?_
          refine or_goto 22 E dL_law_66 rfl ?_
          exact or_wd (by omega) (by omega) (or_lv _ rfl (ih (i + 1) (B + 8) z2 _ (by omega) (by omega) b2 (by omega)))
        · refine or_aload_n E rfl dL_law_54 ?_
          refine oy_T (st := []) [.ref z] (tL_seen (Z := Z) h_x b2) E G lk_120_272 dL_law_55 rfl (by decide) (by decide) ⟨by omega, by omega⟩ (Nat.le_of_ble_eq_true rfl) (fun c' _ h0 hk => by have := hk.1; omega) (fun r h1 hk => ?_)
          obtain ⟨-, rfl, z3, hz3, rfl⟩ := hk
          refine or_if_neZ 63 E dL_law_58 rfl (fun _ => ?_) (fun h => absurd h (by decide))
          refine or_iincN (c := 1) E dL_law_63 rfl rfl (by decide) ?_
          refine or_goto 22 E dL_law_66 rfl ?_
          exact or_wd (by omega) (by omega) (or_lv _ rfl (ih (i + 1) (B + 8) z3 _ (by omega) (by omega) b2 (by omega)))
  exact or_wd (by omega) (by omega) (or_lv _ rfl (L22 41 0 0 z1 J3 (by omega) (by omega) hI (by omega)))
