/-! THE CLAIM OUT OF ONE WALK OF THE LAW'S BODY. Your part is whole_start (and what it stands on); all else here is the same for every law, but numbers. -/
def R_law : String := "LowWaterAuctionLaw"
def lw_P (b : Addr) (xs : List Int32) (args : Array Value) (s : State) : Prop := args = #[.ref b] ∧ s.IntsAt b xs ∧ xs.length ≤ 3072 ∧ (Jvm.Cond.and given_1 narrow_1).before args s = true
/-- what a walk over the start with the record d0 says of its end, said of the start itself -/
theorem lw_closed {s t : State} {o : Outcome} {d0 : Drawn} {L : List Loc} {k n : Nat} (hd0 : s.drawn.sameBut d0 lw_cs) (hv : ∃ v, o = .returned v) (hW : (s.setDrawn d0).WarmedH t.vm) (hs : (s.setDrawn d0).sameButNew ({ t with vm := s.vm } : State) L k n) : State.butDraws s t lw_cs (fun t1 => Framed s o t1 L k n) := by
  have h2 : t.drawn = d0 := congrArg State.drawn hs.1
  refine ⟨⟨hv, hW, State.sameButNew.setDrawn hs s.drawn⟩, ?_, by decide⟩
  rw [h2]
  exact hd0
def lw_Q (_ : Array Value) (s : State) (o : Outcome) (t : State) : Prop := o = .returned (some (.int 1)) ∧ State.butDraws s t lw_cs (fun t1 => Framed s o t1 [] 601024 7293034)
def lw_Z (below : List Frame) (a : Array Value) (s : State) : State → Prop := fun t => ∃ o, t.status = .running ∧ Ended t below o ∧ lw_Q a s o t
/-- the law's own end, with 1 on the stack, nothing written that was there before, its room as the claim has it; d0: the record of draws at this point (at the entry s.drawn: begin with 'refine W.base ?_' and 'have hd0 := Drawn.sameBut.refl s.drawn lw_cs') -/
theorem lw_ret {p : Program} {l : Launch} {e : Env} {s : State} {m : MethodId} {below : List Frame} {meth : Method} {c : Code} {b : Nat} {d0 : Drawn} (hd0 : s.drawn.sameBut d0 lw_cs) (hx : p.tables.exec = Jvm.exec) (hb : c.code = code) (hr : meth.sig.returnType = ret) (hlocks : meth.locks = false) {pc : Nat} {H : Heap} {ls : Array Slot} (hdg : decode code pc = .ok (.ireturn, 1)) : W p l e room_1 (s.setDrawn d0) m #[Value.ref b] below meth c H [] 601024 7293034 (lw_Z below #[Value.ref b] s) (F0 m pc ls [.int 1]) := by
  intro T hT X
  obtain ⟨fs, hret, hrun, hended, hW, hframe⟩ := X.leave (v := some (.int 1)) (hlocks := hlocks) (fun h => by rw [hr] at h; cases h)
  have hmeth' : T.vm.method? m = some meth := X.method'
  refine ⟨T.setFrames fs, ?_, .returned (some (.int 1)), hrun, hended, rfl, lw_closed hd0 ⟨_, rfl⟩ hW hframe⟩
  jvm_step X.here [X.here.top, hx, hb, hdg, hmeth', hr, ret, narrow_b1]
  (try refine ⟨rfl, ?_⟩); (try refine ⟨rfl, ?_⟩)
  first | (intro acts; rw [hret _ acts rfl rfl rfl]) | rw [hret _ _ rfl rfl rfl]
  exact Steps.refl _
/-- what holds at the law's entry: the machine, the code, the tables' words (any of lw_tbl by 'hts w (by decide +kernel)'), the script of L ints xs at the cell b, what the Statement gives of the start (any of its parts by flat_of_before) -/
def lw_At (p : Program) (s : State) (m : MethodId) (meth : Method) (c : Code) (b L : Nat) (xs : Nat → Int32) : Prop :=
  p.tables.exec = Jvm.exec ∧ c.code = code ∧ meth.sig.returnType = ret ∧ c.maxLocals = 10 ∧ s.vm.findClass R_law = some m.cls ∧ (∀ w ∈ lw_tbl, w.before #[Value.ref b] s = true) ∧ va_X b L xs s s.heap ∧ b < s.heap.size ∧ meth.locks = false ∧ (Jvm.Cond.and given_1 narrow_1).before #[Value.ref b] s = true
theorem lz_L_148 : ow_lz RL 148 yX10_init cX10_init 2 0 := ⟨ow_T_in 37 (by decide +kernel) (by decide +kernel), ow_T_in 38 (by decide +kernel) (by decide +kernel), ow_T_in 1 (by decide +kernel) (by decide +kernel), ow_T_in 39 (by decide +kernel) (by decide +kernel), rfl, ⟨by decide +kernel, by decide +kernel, by decide +kernel⟩⟩
theorem lz_L_151 : ow_lz RL 151 yX11_init cX11_init 1 0 := ⟨ow_T_in 1599 (by decide +kernel) (by decide +kernel), ow_T_in 1600 (by decide +kernel) (by decide +kernel), ow_T_in 19 (by decide +kernel) (by decide +kernel), ow_T_in 1601 (by decide +kernel) (by decide +kernel), rfl, ⟨by decide +kernel, by decide +kernel, by decide +kernel⟩⟩
theorem df_10 : ∀ k, k < 8 → defaultValue (tyX10 k) = ow_v (raw10 k) 0 .null := fun k hk => match k, hk with | 0, _ => rfl | 1, _ => rfl | 2, _ => rfl | 3, _ => rfl | 4, _ => rfl | 5, _ => rfl | 6, _ => rfl | 7, _ => rfl | k + 8, h => absurd h (by omega)
section LWS
variable {x : Nat} {Z : Nat → Nat} {S1 : Nat → Option ow_Sh} {I0 : ow_I} {V1 : Nat → Nat → Value}
/-- the constructor's reading leaves the output -/
theorem ai_row (hP : ai_P Z x S1 I0 V1) {b : Nat} (hb : x + 561 ≤ b) : ai_I x I0 b = I0 b := by
  obtain ⟨-, ⟨-, -, ⟨⟨k1, k2, k3⟩, o1, o2, sv⟩, ⟨cm0, -, inp, er1, er2⟩, -, -⟩, k4⟩ := hP
  have hin0 : in_R (I0 (x + 515 + 1)) := ⟨by rw [inp]; decide, by rw [inp]; decide, by rw [inp]; decide⟩
  have hinU := @in_as (x + 515 + 1) 9 I0 hin0
  have u3 : ∀ b, b ≠ x + 515 + 1 → b ≠ x + 515 + 1 + 1 → U_addSigns (x + 515 + 1) 9 I0 b = I0 b := fun b h1 h2 => rr_as h1 h2
  unfold ai_I
  generalize U_addSigns (x + 515 + 1) 9 I0 = U at hinU u3 ⊢
  have hcs : cs (x + 515) (x + 1) U U := ⟨⟨hinU, kV_eq k1 (fun b z1 z2 => u3 b (by omega) (by omega)), fun _ _ _ => rfl⟩, cm_row cm0 (u3 _ (by omega) (by omega)) (fun i hi => u3 _ (by omega) (by omega))⟩
  have hcs2 := cs_set (by omega) hcs
  rw [rr_u (by omega), hcs2.1.2.2 b (by omega) (by omega), u3 b (by omega) (by omega)]
theorem cm_5 {p : Nat} : cm_V p (fun _ _ => nI 5) := ⟨(by decide : (0 : Int32) ≤ nI 5), ⟨(by decide : (0 : Int32) ≤ nI 5), (by decide : tn (nI 5) ≤ 20)⟩, fun i hi => ⟨⟨5, by decide, rfl⟩, (by decide : (0 : Int32) ≤ nI 5), (by decide : (0 : Int32) ≤ nI 5)⟩⟩
/-- the first state of the law -/
theorem lw_first {m o : Nat} {S : Nat → Option ow_Sh} {I K0 : ow_I} {V : Nat → Nat → Value} (hm : m = x + 666) (ho : o = m + 8) (hP : ai_P Z x S1 I0 V1) (hM : mi_P m K0) (mS : md_S S m) (hS : ∀ b, b < m → S b = S1 b) (hV : ∀ b, b < m → V b = V1 b) (h3 : S o = some (.inr (.long, 1, ol_l))) (h4 : S (o + 1) = some (.inr (.double, 1, ol_l))) (hI : ∀ b, x ≤ b → b < m → I b = ai_I x I0 b) (hJ : ∀ b, m ≤ b → b < m + 8 → I b = mi_I m K0 b) : lwI Z x m o (4000 * 0) S (gh x (fun _ _ => nI 5) I) V := by
  obtain ⟨r1, r2⟩ := RR_first (I := I) (J := I) (fun b z1 z2 => hI b z1 (by omega)) hJ hP hM
  have g1 := RR_gh (I := fun _ _ => nI 5) r1 cm_5
  have hau : au_S S x := auS_z hP.1 (fun b hb => hS b (by omega))
  obtain ⟨-, ⟨-, ⟨s1, s2, s3⟩, -, ⟨-, v5, -⟩, s4, s5⟩, -⟩ := id hP
  refine ⟨⟨hau, mS, h3, h4⟩, by omega, RR_tr g1 (fun _ _ => rfl) (fun b z1 z2 _ _ => gh_o (by omega)) (fun k _ => by rw [gh_o (by omega)]), fun i hi => ?_, x + 563, 0, fun _ => 0, ?_, ?_, Or.inl rfl⟩
  · rw [gh_c hi, hV _ (by omega), (v5 i hi).2]
    show _ = gl_vv Z (tn (nI 5))
    rw [tn_nI (by omega), gl_vl (by decide)]
  · have e1 : gh x (fun _ _ => nI 5) I (x + 562) = fun _ => 0 := by rw [gh_o (by omega), hI _ (by omega) (by omega), ai_row hP (by omega), s4]
    have e2 : gh x (fun _ _ => nI 5) I (x + 563) = fun _ => 0 := by rw [gh_o (by omega), hI _ (by omega) (by omega), ai_row hP (by omega), s5]
    refine ⟨?_, ?_, ?_, ?_, 16, ?_, by decide, by decide, ?_, ?_⟩
    · show S (x + 562) = _
      rw [hS _ (by omega)]; exact s1
    · show V (x + 562) 0 = _
      rw [hV _ (by omega)]; exact s3
    · show gh x (fun _ _ => nI 5) I (x + 562) 1 = 0
      rw [e1]
    · show gh x (fun _ _ => nI 5) I (x + 562) 3 = nI 0
      rw [e1]; rfl
    · show S (x + 563) = _
      rw [hS _ (by omega)]; exact s2
    · intro j hj; omega
    · show sb_Fit (gh x (fun _ _ => nI 5) I (x + 563))
      rw [e2]
      intro j
      rfl
  · exact ⟨by rw [gh_o (by omega)]; exact r2, by decide, fun i hi => by omega⟩
end LWS
section LWL
variable {X : ow_X} {Z : Nat → Nat} {b L x m o : Nat} {xs : Nat → Int32}
theorem lw_neg : ∀ n : Nat, n < 6 → nI n - nI 6 < nI 0 := by decide
set_option maxRecDepth 100000 in
set_option maxHeartbeats 4000000 in
theorem lw_loop (W : lwE X Z b L xs) (fin : ∀ (h : ow_H) (lv : List (Nat × Value)) (cs sl : Nat), cs ≤ 601024 → sl ≤ 7293034 → ow_W X cs sl h 3155 lv [.int (nI 1)]) : ∀ (n j cs sl z : Nat) (S : Nat → Option ow_Sh) (I : ow_I) (V : Nat → Nat → Value), j + n = 513 → 6 * j ≤ L → lwI Z x m o (4000 * j) S I V → cs ≤ 1000 + 44 * j → sl ≤ 13000 + 5596 * j → ow_W X cs sl (S, I, V, z) 28 (lwv b x m o (6 * j)) [] := by
  intro n
  induction n with
  | zero =>
    intro j cs sl z S I V hn hj _ _ _
    have := W.2.2.2
    omega
  | succ n ih =>
    intro j cs sl z S I V hn hj hI hcs hsl
    obtain ⟨E, G, GS, hL⟩ := id W
    have out : ow_W X cs sl (S, I, V, z) 3154 (lwv b x m o (6 * j)) [] := or_iconst (v := nI 1) E rfl dL_law_3154 (fin _ _ _ _ (by omega) (by omega))
    refine or_iload E rfl dL_law_28 ?_
    refine or_aload_n (j := 0) E rfl dL_law_30 ?_
    refine or_slen E GS dL_law_31 ?_
    refine or_bipush (v := nI 6) E rfl dL_law_32 ?_
    by_cases h6 : L < 6
    · refine or_isub E dL_law_34 ?_
      obtain rfl : j = 0 := by omega
      exact or_icmp_gt 3154 E dL_law_35 rfl (fun _ => out) (fun hn => (hn (lw_neg L h6)).elim)
    · refine or_isubN E dL_law_34 (by omega) ?_
      refine or_icmp_gtN 3154 E dL_law_35 rfl (by omega) (by omega) (fun _ => out) (fun hi => ?_)
      have hi6 : 6 * j + 6 ≤ L := by omega
      refine or_aload_n (j := 0) E rfl dL_law_38 ?_
      refine or_iload E rfl dL_law_39 ?_
      refine or_sld E GS dL_law_41 (by omega) (by omega) ?_
      refine or_bipush (v := nI 63) E rfl dL_law_42 ?_
      refine or_iand E dL_law_44 ?_
      obtain ⟨k, hk, e⟩ := pk_andE (xs (6 * j)) (m := nI 63) 6 (by decide)
      rw [e]
      have tl : ∀ (S1 : Nat → Option ow_Sh) (I1 : ow_I) (V1 : Nat → Nat → Value) (z1 : Nat), lwI Z x m o (4000 * j + 4000) S1 I1 V1 → ow_W X (cs + 44) (sl + 5596) (S1, I1, V1, z1) 3148 (lwv b x m o (6 * j)) [] := fun S1 I1 V1 z1 h1 => by
        refine or_iincN E dL_law_3148 rfl rfl (by decide) ?_
        refine or_goto 28 E dL_law_3151 rfl ?_
        refine or_lv (lwv b x m o (6 * (j + 1))) rfl ?_
        exact ih (j + 1) (cs + 44) (sl + 5596) z1 S1 I1 V1 (by omega) (by omega) h1 (by omega) (by omega)
      have hB : 4000 * j + 4000 < 2 ^ 29 := by omega
      have hc : cs + 44 ≤ 601024 := by omega
      have hs : sl + 5596 ≤ 7293034 := by omega
      match k, hk with
      | 0, _ => exact or_tabIn 316 E dL_law_45 (by decide) (by decide) rfl rfl (lc_0 W hI hB hi6 hc hs tl)
      | 1, _ => exact or_tabIn 420 E dL_law_45 (by decide) (by decide) rfl rfl (lc_1 W hI hB hi6 hc hs tl)
      | 2, _ => exact or_tabIn 476 E dL_law_45 (by decide) (by decide) rfl rfl (lc_2 W hI hB hi6 hc hs tl)
      | 3, _ => exact or_tabIn 489 E dL_law_45 (by decide) (by decide) rfl rfl (lc_3 W hI hB hi6 hc hs tl)
      | 4, _ => exact or_tabIn 502 E dL_law_45 (by decide) (by decide) rfl rfl (lc_4 W hI hB hi6 hc hs tl)
      | 5, _ => exact or_tabIn 546 E dL_law_45 (by decide) (by decide) rfl rfl (lc_5 W hI hB hi6 hc hs tl)
      | 6, _ => exact or_tabIn 590 E dL_law_45 (by decide) (by decide) rfl rfl (lc_6 W hI hB hi6 hc hs tl)
      | 7, _ => exact or_tabIn 646 E dL_law_45 (by decide) (by decide) rfl rfl (lc_7 W hI hB hi6 hc hs tl)
      | 8, _ => exact or_tabIn 702 E dL_law_45 (by decide) (by decide) rfl rfl (lc_8 W hI hB hi6 hc hs tl)
      | 9, _ => exact or_tabIn 782 E dL_law_45 (by decide) (by decide) rfl rfl (lc_9 W hI hB hi6 hc hs tl)
      | 10, _ => exact or_tabIn 850 E dL_law_45 (by decide) (by decide) rfl rfl (lc_10 W hI hB hi6 hc hs tl)
      | 11, _ => exact or_tabIn 906 E dL_law_45 (by decide) (by decide) rfl rfl (lc_11 W hI hB hi6 hc hs tl)
      | 12, _ => exact or_tabIn 974 E dL_law_45 (by decide) (by decide) rfl rfl (lc_12 W hI hB hi6 hc hs tl)
      | 13, _ => exact or_tabIn 1042 E dL_law_45 (by decide) (by decide) rfl rfl (lc_13 W hI hB hi6 hc hs tl)
      | 14, _ => exact or_tabIn 1098 E dL_law_45 (by decide) (by decide) rfl rfl (lc_14 W hI hB hi6 hc hs tl)
      | 15, _ => exact or_tabIn 1178 E dL_law_45 (by decide) (by decide) rfl rfl (lc_15 W hI hB hi6 hc hs tl)
      | 16, _ => exact or_tabIn 1222 E dL_law_45 (by decide) (by decide) rfl rfl (lc_16 W hI hB hi6 hc hs tl)
      | 17, _ => exact or_tabIn 1258 E dL_law_45 (by decide) (by decide) rfl rfl (lc_17 W hI hB hi6 hc hs tl)
      | 18, _ => exact or_tabIn 1314 E dL_law_45 (by decide) (by decide) rfl rfl (lc_18 W hI hB hi6 hc hs tl)
      | 19, _ => exact or_tabIn 1327 E dL_law_45 (by decide) (by decide) rfl rfl (lc_19 W hI hB hi6 hc hs tl)
      | 20, _ => exact or_tabIn 1340 E dL_law_45 (by decide) (by decide) rfl rfl (lc_20 W hI hB hi6 hc hs tl)
      | 21, _ => exact or_tabIn 1353 E dL_law_45 (by decide) (by decide) rfl rfl (lc_21 W hI hB hi6 hc hs tl)
      | 22, _ => exact or_tabIn 1366 E dL_law_45 (by decide) (by decide) rfl rfl (lc_22 W hI hB hi6 hc hs tl)
      | 23, _ => exact or_tabIn 1379 E dL_law_45 (by decide) (by decide) rfl rfl (lc_23 W hI hB hi6 hc hs tl)
      | 24, _ => exact or_tabIn 1392 E dL_law_45 (by decide) (by decide) rfl rfl (lc_24 W hI hB hi6 hc hs tl)
      | 25, _ => exact or_tabIn 1405 E dL_law_45 (by decide) (by decide) rfl rfl (lc_25 W hI hB hi6 hc hs tl)
      | 26, _ => exact or_tabIn 1418 E dL_law_45 (by decide) (by decide) rfl rfl (lc_26 W hI hB hi6 hc hs tl)
      | 27, _ => exact or_tabIn 1431 E dL_law_45 (by decide) (by decide) rfl rfl (lc_27 W hI hB hi6 hc hs tl)
      | 28, _ => exact or_tabIn 1444 E dL_law_45 (by decide) (by decide) rfl rfl (lc_28 W hI hB hi6 hc hs tl)
      | 29, _ => exact or_tabIn 1457 E dL_law_45 (by decide) (by decide) rfl rfl (lc_29 W hI hB hi6 hc hs tl)
      | 30, _ => exact or_tabIn 1470 E dL_law_45 (by decide) (by decide) rfl rfl (lc_30 W hI hB hi6 hc hs tl)
      | 31, _ => exact or_tabIn 1495 E dL_law_45 (by decide) (by decide) rfl rfl (lc_31 W hI hB hi6 hc hs tl)
      | 32, _ => exact or_tabIn 1508 E dL_law_45 (by decide) (by decide) rfl rfl (lc_32 W hI hB hi6 hc hs tl)
      | 33, _ => exact or_tabIn 1564 E dL_law_45 (by decide) (by decide) rfl rfl (lc_33 W hI hB hi6 hc hs tl)
      | 34, _ => exact or_tabIn 1632 E dL_law_45 (by decide) (by decide) rfl rfl (lc_34 W hI hB hi6 hc hs tl)
      | 35, _ => exact or_tabIn 1688 E dL_law_45 (by decide) (by decide) rfl rfl (lc_35 W hI hB hi6 hc hs tl)
      | 36, _ => exact or_tabIn 1744 E dL_law_45 (by decide) (by decide) rfl rfl (lc_36 W hI hB hi6 hc hs tl)
      | 37, _ => exact or_tabIn 1800 E dL_law_45 (by decide) (by decide) rfl rfl (lc_37 W hI hB hi6 hc hs tl)
      | 38, _ => exact or_tabIn 1856 E dL_law_45 (by decide) (by decide) rfl rfl (lc_38 W hI hB hi6 hc hs tl)
      | 39, _ => exact or_tabIn 1912 E dL_law_45 (by decide) (by decide) rfl rfl (lc_39 W hI hB hi6 hc hs tl)
      | 40, _ => exact or_tabIn 1968 E dL_law_45 (by decide) (by decide) rfl rfl (lc_40 W hI hB hi6 hc hs tl)
      | 41, _ => exact or_tabIn 2024 E dL_law_45 (by decide) (by decide) rfl rfl (lc_41 W hI hB hi6 hc hs tl)
      | 42, _ => exact or_tabIn 2080 E dL_law_45 (by decide) (by decide) rfl rfl (lc_42 W hI hB hi6 hc hs tl)
      | 43, _ => exact or_tabIn 2158 E dL_law_45 (by decide) (by decide) rfl rfl (lc_43 W hI hB hi6 hc hs tl)
      | 44, _ => exact or_tabIn 2171 E dL_law_45 (by decide) (by decide) rfl rfl (lc_44 W hI hB hi6 hc hs tl)
      | 45, _ => exact or_tabIn 2227 E dL_law_45 (by decide) (by decide) rfl rfl (lc_45 W hI hB hi6 hc hs tl)
      | 46, _ => exact or_tabIn 2283 E dL_law_45 (by decide) (by decide) rfl rfl (lc_46 W hI hB hi6 hc hs tl)
      | 47, _ => exact or_tabIn 2339 E dL_law_45 (by decide) (by decide) rfl rfl (lc_47 W hI hB hi6 hc hs tl)
      | 48, _ => exact or_tabIn 2395 E dL_law_45 (by decide) (by decide) rfl rfl (lc_48 W hI hB hi6 hc hs tl)
      | 49, _ => exact or_tabIn 2451 E dL_law_45 (by decide) (by decide) rfl rfl (lc_49 W hI hB hi6 hc hs tl)
      | 50, _ => exact or_tabIn 2540 E dL_law_45 (by decide) (by decide) rfl rfl (lc_50 W hI hB hi6 hc hs tl)
      | 51, _ => exact or_tabIn 2596 E dL_law_45 (by decide) (by decide) rfl rfl (lc_51 W hI hB hi6 hc hs tl)
      | 52, _ => exact or_tabIn 2652 E dL_law_45 (by decide) (by decide) rfl rfl (lc_52 W hI hB hi6 hc hs tl)
      | 53, _ => exact or_tabIn 2665 E dL_law_45 (by decide) (by decide) rfl rfl (lc_53 W hI hB hi6 hc hs tl)
      | 54, _ => exact or_tabIn 2721 E dL_law_45 (by decide) (by decide) rfl rfl (lc_54 W hI hB hi6 hc hs tl)
      | 55, _ => exact or_tabIn 2777 E dL_law_45 (by decide) (by decide) rfl rfl (lc_55 W hI hB hi6 hc hs tl)
      | 56, _ => exact or_tabIn 2845 E dL_law_45 (by decide) (by decide) rfl rfl (lc_56 W hI hB hi6 hc hs tl)
      | 57, _ => exact or_tabIn 2901 E dL_law_45 (by decide) (by decide) rfl rfl (lc_57 W hI hB hi6 hc hs tl)
      | 58, _ => exact or_tabIn 2957 E dL_law_45 (by decide) (by decide) rfl rfl (lc_58 W hI hB hi6 hc hs tl)
      | 59, _ => exact or_tabIn 2970 E dL_law_45 (by decide) (by decide) rfl rfl (lc_59 W hI hB hi6 hc hs tl)
      | 60, _ => exact or_tabIn 3011 E dL_law_45 (by decide) (by decide) rfl rfl (lc_60 W hI hB hi6 hc hs tl)
      | 61, _ => exact or_tabIn 3054 E dL_law_45 (by decide) (by decide) rfl rfl (lc_61 W hI hB hi6 hc hs tl)
      | 62, _ => exact or_tabIn 3110 E dL_law_45 (by decide) (by decide) rfl rfl (lc_62 W hI hB hi6 hc hs tl)
      | 63, _ => exact or_tabIn 3123 E dL_law_45 (by decide) (by decide) rfl rfl (lc_63 W hI hB hi6 hc hs tl)
      | k + 64, h9 => exact absurd h9 (by omega)
set_option maxRecDepth 100000 in
set_option maxHeartbeats 4000000 in
theorem lw_begin {z : Nat} (W : lwE X Z b L xs) (fin : ∀ (h : ow_H) (lv : List (Nat × Value)) (cs sl : Nat), cs ≤ 601024 → sl ≤ 7293034 → ow_W X cs sl h 3155 lv [.int (nI 1)]) : ow_W X 0 0 (fun _ => none, fun _ _ => 0, fun _ _ => .null, z) 0 (lv_args 0 [.ref b]) [] := by
  obtain ⟨E, G, GS, hL⟩ := id W
  refine or_lv [(0, .ref b)] rfl ?_
  refine or_newO (f := fun _ => .null) (ci := 10) (κ := raw10) E (ow_T_in 35 (by decide +kernel) (by decide +kernel)) (ow_T_in 36 (by decide +kernel) (by decide +kernel)) (ow_T_in 1 (by decide +kernel) (by decide +kernel)) rfl ow_ok10 tyX10_ok df_10 dL_law_0 (by omega) (by omega) ?_
  refine or_dup E rfl dL_law_3 ?_
  refine oy_I (st := [.ref z]) [] (cA_init (Z := Z) (x := z) (ow_nS_s _ _ _)) E G lz_L_148 dL_law_4 rfl (by decide) (by decide) ⟨by omega, by omega⟩ (Nat.le_of_ble_eq_true rfl) (fun c' _ h0 hk => by have := hk.1; omega) (fun r h1 hk => ?_)
  obtain ⟨-, rfl, S1, I1, V1, rfl, -, -, -, I0, eI, hP⟩ := hk
  refine or_astore_n E dL_law_7 (by decide) ?_
  refine or_newO (f := fun _ => .null) (ci := 11) (κ := raw11) E (ow_T_in 1597 (by decide +kernel) (by decide +kernel)) (ow_T_in 1598 (by decide +kernel) (by decide +kernel)) (ow_T_in 19 (by decide +kernel) (by decide +kernel)) rfl ow_ok11 tyX11_ok df_11 dL_law_8 (by omega) (by omega) ?_
  refine or_dup E rfl dL_law_11 ?_
  refine oy_I (st := [.ref (z + 666)]) [] (cM_init (Z := Z) (m := z + 666) (ow_nS_s _ _ _) (fun j => ow_nI_s _ _ _)) E G lz_L_151 dL_law_12 rfl (by decide) (by decide) ⟨by omega, by omega⟩ (Nat.le_of_ble_eq_true rfl) (fun c' _ h0 hk => by have := hk.1; omega) (fun r h1 hk => ?_)
  obtain ⟨-, rfl, S2, I2, V2, rfl, bS, bI, bV, mS, K0, eJ, hM⟩ := hk
  refine or_astore_n E dL_law_15 (by decide) ?_
  refine or_iconst (v := nI 1) E rfl dL_law_16 ?_
  refine or_newV (atype := .long) (N := 1) E (ow_T_in 2240 (by decide +kernel) (by decide +kernel)) dL_law_17 (by decide) (by decide) (by omega) (by omega) ?_
  refine or_astore_n E dL_law_19 (by decide) ?_
  refine or_iconst (v := nI 1) E rfl dL_law_20 ?_
  refine or_newV (atype := .double) (N := 1) E (ow_T_in 2241 (by decide +kernel) (by decide +kernel)) dL_law_21 (by decide) (by decide) (by omega) (by omega) ?_
  refine or_astore E dL_law_23 (by decide) ?_
  refine or_iconst (v := nI 0) E rfl dL_law_25 ?_
  refine or_istore E dL_law_26 (by decide) ?_
  have hf := lw_first (Z := Z) (x := z) (m := z + 666) (o := z + 666 + 8) (S := ow_nS (ow_nS S2 (z + 666 + 8) (.inr (.long, 1, ol_l))) (z + 666 + 8 + 1) (.inr (.double, 1, ol_l))) (I := ow_nI (ow_nI I2 (z + 666 + 8)) (z + 666 + 8 + 1)) (V := ow_nV (ow_nV V2 (z + 666 + 8) (fun _ => defaultValue (newarray.typeOf .long))) (z + 666 + 8 + 1) (fun _ => defaultValue (newarray.typeOf .double))) rfl rfl hP hM
    (mdS_z mS (fun b hb => by rw [ow_nS_o _ _ (by omega), ow_nS_o _ _ (by omega)])) (fun b hb => by rw [ow_nS_o _ _ (by omega), ow_nS_o _ _ (by omega), bS b hb, ow_nS_o _ _ (by omega)]) (fun b hb => by rw [ow_nV_o _ _ (by omega), ow_nV_o _ _ (by omega), bV b hb, ow_nV_o _ _ (by omega)]) ((ow_nS_o _ _ (by omega)).trans (ow_nS_s _ _ _)) (ow_nS_s _ _ _)
    (fun b h1 h2 => by rw [ow_nI_o _ (by omega), ow_nI_o _ (by omega), bI b h2, ow_nI_o _ (by omega), eI]) (fun b h1 h2 => by rw [ow_nI_o _ (by omega), ow_nI_o _ (by omega), eJ])
  refine or_ghs (gh_S (I := fun _ _ => nI 5) hf.1.1) ?_
  refine or_lv (lwv b z (z + 666) (z + 666 + 8) (6 * 0)) rfl ?_
  exact lw_loop W fin 513 0 _ _ _ _ _ _ rfl (by omega) hf (by omega) (by omega)
end LWL
/-- the law's end, at any room -/
theorem lw_rt {p : Program} {l : Launch} {e : Env} {R : Room} {s : State} {m : MethodId} {below : List Frame} {meth : Method} {c : Code} {b : Nat} {d0 : Drawn} (hd0 : s.drawn.sameBut d0 lw_cs) (hx : p.tables.exec = Jvm.exec) (hb : c.code = code) (hr : meth.sig.returnType = ret) (hlocks : meth.locks = false) {pc : Nat} {H : Heap} {ls : Array Slot} (hdg : decode code pc = .ok (.ireturn, 1)) : W p l e R (s.setDrawn d0) m #[Value.ref b] below meth c H [] 601024 7293034 (lw_Z below #[Value.ref b] s) (F0 m pc ls [.int 1]) := by
  intro T hT X
  obtain ⟨fs, hret, hrun, hended, hW, hframe⟩ := X.leave (v := some (.int 1)) (hlocks := hlocks) (fun h => by rw [hr] at h; cases h)
  have hmeth' : T.vm.method? m = some meth := X.method'
  refine ⟨T.setFrames fs, ?_, .returned (some (.int 1)), hrun, hended, rfl, lw_closed hd0 ⟨_, rfl⟩ hW hframe⟩
  jvm_step X.here [X.here.top, hx, hb, hdg, hmeth', hr, ret, narrow_b1]
  (try refine ⟨rfl, ?_⟩); (try refine ⟨rfl, ?_⟩)
  first | (intro acts; rw [hret _ acts rfl rfl rfl]) | rw [hret _ _ rfl rfl rfl]
  exact Steps.refl _
/-- less room is asked than there is -/
theorem W_room {p : Program} {l : Launch} {e : Env} {R R' : Room} {s : State} {m : MethodId} {args : Array Value} {below : List Frame} {meth : Method} {c : Code} {H : Heap} {locs : List Loc} {cells slots : Nat} {Q : State → Prop} {g : JFrame} (hf : R'.frames ≤ R.frames) (hl : R'.locals ≤ R.locals) (hc : R'.cells ≤ R.cells) (hs : R'.slots ≤ R.slots) (k : W p l e R' s m args below meth c H locs cells slots Q g) : W p l e R s m args below meth c H locs cells slots Q g := by
  intro T hT X
  refine k T hT ⟨X.admits, X.cas, X.clock, X.frames, ?_, X.hears, X.method, X.code, X.here, X.tail, X.warmed, X.limits, X.bytes, X.same⟩
  have h := X.room
  simp only [State.hasRoom, Bool.and_eq_true, decide_eq_true_eq] at h ⊢
  obtain ⟨⟨⟨⟨h1, h2, h3, h4, h5, h6⟩, h7⟩, h8⟩, h9⟩ := h
  exact ⟨⟨⟨⟨by omega, by omega, by omega, by omega, by omega, h6⟩, by omega⟩, by omega⟩, h9⟩
theorem whole_start {p : Program} {e : Env} {s : State} {m : MethodId} {below : List Frame} {meth : Method} {c : Code} (l : Launch) (hflags : l.flags = flags0) {b L : Nat} {xs : Nat → Int32} (hL : L ≤ 3072) (C0 : lw_At p s m meth c b L xs) : W p l e room_1 s m #[Value.ref b] below meth c s.heap [] 0 0 (lw_Z below #[Value.ref b] s) (entryFrame m ([Value.ref b] : List Value).toArray 10) := by
  obtain ⟨hx, hb, hr, hml, hown, hts, hX, hbl, hlocks, hgv⟩ := C0
  have ht : ∀ w ∈ tables_1, w.before #[Value.ref b] s = true := fun w hw => hts w (List.mem_append_right _ hw)
  have hT := ow_T_all ht
  obtain ⟨D, hK⟩ := ow_known hT
  have hst : l.stackTraces = false := by
    unfold Launch.stackTraces
    rw [hflags]
    decide
  obtain ⟨Z, hG⟩ := st_G (A := fun q => s.heap.size ≤ q) hgv ht (fun a ha h => by omega)
  refine W_room (R' := ow_rm 2000 601024 7293034) (by decide) (by decide) (by decide) (by decide) ?_
  have hl := lv_entry [Value.ref b] (n := 10) (Nat.le_of_ble_eq_true rfl)
  rw [lg_entry_eq]
  have hW : lwE (p, l, e, ow_rm 2000 601024 7293034, s, m, #[Value.ref b], below, meth, c, lw_Z below #[Value.ref b] s, D, fun q => s.heap.size ≤ q) Z b L xs := ⟨⟨hx, hb, hown, hT, hK, fun q hq => hq, hml, rfl⟩, ⟨hG, hst⟩, ⟨hX, hbl, fun h => by omega⟩, hL⟩
  have key := lw_begin (z := s.heap.size) hW (fun h lv cs sl hc hs => by
    intro H locs ls hR hD hSS hl
    exact va_forget hSS.2.2 (W.widen hc hs (W.base (lw_rt (Drawn.sameBut.refl s.drawn lw_cs) hx hb hr hlocks dL_law_3155))))
  exact key s.heap [] _ ⟨(fun a sh h => by cases h), rfl⟩ (fun q sh h => by cases h) va_S.rf (by rw [hml]; exact hl)
