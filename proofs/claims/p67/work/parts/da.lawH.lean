def L_acted_L553 (x : Nat) (m : Nat) (sc : Nat) (g : Nat) (w : Nat → Nat → Nat) : Nat → ow_I → Int32 → Bool × ow_I
  | 0, I, _ => (default, I)
  | n + 1, I, i => if i < 0 then if A_nextNodder x I = L_nodder x m I then if A_coinError x I = 0 then (true, I) else (false, I) else (false, I) else lt (L_minute x m I) (fun (r12 : Bool × ow_I) => if r12.1 then L_acted_L553 x m sc g w n r12.2 (i + Int32.ofInt (-1)) else (false, r12.2))
def L_acted (x : Nat) (m : Nat) (sc : Nat) (g : Nat) (w : Nat → Nat → Nat) (I : ow_I) : Bool × ow_I :=
  lt (if tn (A_barrelCount x I) = 0 then (-1) else nI (w (g + 2) (tn (A_barrelCount x I)))) (fun (b19 : Int32) => lt (if b19 < 0 then true else if w g 14 = 0 then true else false) (fun (b48 : Bool) => if b48 then if tn (A_barrelCount x I) = 20 then (true, I) else lt (A_addBarrel x (nI (1 + (w (g + 1) 90))) (nI (1 + (w (g + 1) 9))) (nI (10 + (w (g + 2) 141))) I) (fun (r1 : Int32 × ow_I) => if r1.1 = nI (tn (A_barrelCount x I)) then if A_eels x (nI (tn (A_barrelCount x I))) r1.2 = nI (1 + (w (g + 1) 9)) then if A_totalLength x (nI (tn (A_barrelCount x I))) r1.2 = nI ((1 + (w (g + 1) 9)) * (10 + (w (g + 2) 141))) then if A_middleLength x (nI (tn (A_barrelCount x I))) r1.2 = nI (10 + (w (g + 2) 141)) then if A_stateOf x (nI (tn (A_barrelCount x I))) r1.2 = 0 then (true, r1.2) else (false, r1.2) else (false, r1.2) else (false, r1.2) else (false, r1.2) else (false, r1.2)) else if nI (w g 14) = nI (1 + 0) then if A_whyNotNod x (nI (w (g + 1) (tn (A_buyerCount x I)))) I = L_reason x m (nI (w (g + 1) (tn (A_buyerCount x I)))) I then if L_reason x m (nI (w (g + 1) (tn (A_buyerCount x I)))) I ≤ 0 then lt (L_nod x (nI (w (g + 1) (tn (A_buyerCount x I)))) I) (fun (r2 : Int32 × ow_I) => if r2.1 = A_nextBid x I then if A_leader x r2.2 = nI (w (g + 1) (tn (A_buyerCount x I))) then if A_bid x r2.2 = A_nextBid x I then if A_quiet x r2.2 = 0 then if A_nods x (nI (w (g + 1) (tn (A_buyerCount x I)))) r2.2 = A_nods x (nI (w (g + 1) (tn (A_buyerCount x I)))) I + (nI 1) then (true, r2.2) else (false, r2.2) else (false, r2.2) else (false, r2.2) else (false, r2.2) else (false, r2.2)) else lt (L_nod x (nI (w (g + 1) (tn (A_buyerCount x I)))) I) (fun (r3 : Int32 × ow_I) => if r3.1 = (-100) then if A_nods x (nI (w (g + 1) (tn (A_buyerCount x I)))) r3.2 = A_nods x (nI (w (g + 1) (tn (A_buyerCount x I)))) I then (true, r3.2) else (false, r3.2) else (false, r3.2)) else (false, I) else if nI (w g 14) = nI (1 + 1) then if A_whyNotNod x (nI (w (g + 1) (tn (A_buyerCount x I)))) I = L_reason x m (nI (w (g + 1) (tn (A_buyerCount x I)))) I then if L_reason x m (nI (w (g + 1) (tn (A_buyerCount x I)))) I ≤ 0 then lt (L_nod x (nI (w (g + 1) (tn (A_buyerCount x I)))) I) (fun (r4 : Int32 × ow_I) => if r4.1 = A_nextBid x I then if A_leader x r4.2 = nI (w (g + 1) (tn (A_buyerCount x I))) then if A_bid x r4.2 = A_nextBid x I then if A_quiet x r4.2 = 0 then if A_nods x (nI (w (g + 1) (tn (A_buyerCount x I)))) r4.2 = A_nods x (nI (w (g + 1) (tn (A_buyerCount x I)))) I + (nI 1) then (true, r4.2) else (false, r4.2) else (false, r4.2) else (false, r4.2) else (false, r4.2) else (false, r4.2)) else lt (L_nod x (nI (w (g + 1) (tn (A_buyerCount x I)))) I) (fun (r5 : Int32 × ow_I) => if r5.1 = (-100) then if A_nods x (nI (w (g + 1) (tn (A_buyerCount x I)))) r5.2 = A_nods x (nI (w (g + 1) (tn (A_buyerCount x I)))) I then (true, r5.2) else (false, r5.2) else (false, r5.2)) else (false, I) else if nI (w g 14) = nI (1 + 2) then lt (L_cut x b19 (nI (1 + (w (g + 1) 8))) I) (fun (r6 : Bool × ow_I) => (r6.1, r6.2)) else if nI (w g 14) = nI (1 + 3) then if A_stateOf x b19 I = 0 then lt (L_withdraw x b19 I) (fun (r8 : Int32 × ow_I) => if r8.1 = A_queueLength x I - (nI 1) then if A_stateOf x b19 r8.2 = nI 3 then (true, r8.2) else (false, r8.2) else (false, r8.2)) else lt (L_withdraw x b19 I) (fun (r7 : Int32 × ow_I) => if r7.1 = (-100) then (true, r7.2) else (false, r7.2)) else if nI (w g 14) = nI (1 + 4) then lt (A_fund x (nI (w (g + 1) (tn (A_buyerCount x I)))) (nI (1 + (w (g + 2) 300))) I) (fun (r9 : Int32 × ow_I) => if r9.1 = A_purse x (nI (w (g + 1) (tn (A_buyerCount x I)))) I + (nI (1 + (w (g + 2) 300))) then if A_coinError x r9.2 = 0 then (true, r9.2) else (false, r9.2) else (false, r9.2)) else if nI (w g 14) = nI (1 + 5) then lt (A_setStep x (nI (1 + (w (g + 2) 50))) I) (fun (r10 : Int32 × ow_I) => if r10.1 = A_step x I then lt (A_setTaste x (nI (w (g + 1) (tn (A_buyerCount x I)))) (nI (w (g + 1) 5)) (nI (1 + (w (g + 2) 200))) r10.2) (fun (r11 : Int32 × ow_I) => if r11.1 = A_style x (nI (w (g + 1) (tn (A_buyerCount x I)))) I then (true, r11.2) else (false, r11.2)) else (false, r10.2)) else L_acted_L553 x m sc g w 10 I (nI (w (g + 2) 8))))
set_option maxRecDepth 100000 in
set_option maxHeartbeats 2000000 in
theorem tL_acted {Z : Nat → Nat} {S : Nat → Option ow_Sh} {I : ow_I} {V : Nat → Nat → Value} {z : Nat} {x : Nat} {m : Nat} {sc : Nat} {g : Nat} {w : Nat → Nat → Nat} {B : Nat} (h_x : au_S S x) (h_m : m4_S S m) (hI : LI B x m I) (hw : w = pkf Z) (hg : g ≤ 1000) (hB : B + 8 ≤ 100000) (hA : qAdd x I) (hN : qNod x I) (hC : qCut x I) (hW : qWdr x I) (hF : qFun x I) (hP : qStp x I) (hM : qMin x m) : ow_Cx Z yL_acted cL_acted 18 (some .boolean) 13 1 6 [.ref x, .ref m, .ref (Z 34), .int (nI g)] (S, I, V, z) (ox_z S V z (some (.int (bi ((L_acted x m sc g w I).1)))) ((L_acted x m sc g w I).2)) := by
  refine ow_Cx.ofz rfl (Nat.le_of_ble_eq_true rfl) (fun X K E G F hk => ?_)
  have E : ow_E X RX120 cL_acted 18 (ow_rm 13 1 6) := E
  refine or_lv [(0, .ref x), (1, .ref m), (2, .ref (Z 34)), (3, .int (nI g))] rfl ?_
  have h8 : 1 ≤ tn (A_buyerCount x I) ∧ tn (A_buyerCount x I) ≤ 6 := (mk_nbuy hI.2.2.1).2
  have h10 : tn (A_barrelCount x I) ≤ 20 := (mk_nbar hI.2.2.1).2
  have hy : 0 ≤ nI (w (g + 1) (tn (A_buyerCount x I))) ∧ tn (nI (w (g + 1) (tn (A_buyerCount x I)))) < tn (I (x + 1) 8) := vy_w (pw hw _ (by omega)) (Nat.le_trans h8.2 (by decide))
  have h10b : tn (I (x + 1) 10) ≤ 20 := h10
  have p0_14 : w g 14 < 14 := pw hw _ (by decide)
  have p1_90 : w (g + 1) 90 < 90 := pw hw _ (by decide)
  have p1_9 : w (g + 1) 9 < 9 := pw hw _ (by decide)
  have p2_141 : w (g + 2) 141 < 141 := pw hw _ (by decide)
  have p1_8 : w (g + 1) 8 < 8 := pw hw _ (by decide)
  have p2_300 : w (g + 2) 300 < 300 := pw hw _ (by decide)
  have p2_50 : w (g + 2) 50 < 50 := pw hw _ (by decide)
  have p1_5 : w (g + 1) 5 < 5 := pw hw _ (by decide)
  have p2_200 : w (g + 2) 200 < 200 := pw hw _ (by decide)
  have p2_8 : w (g + 2) 8 < 8 := pw hw _ (by decide)
  have L553 : ∀ (n : Nat) (I : ow_I) (i : Int32) (hJ : ∃ B : Nat, LI B x m I ∧ B + cnt i ≤ 100000) (hm : cnt i < n) (hk : ∀ z_ : Nat, z ≤ z_ → K 0 (some (.int (bi ((L_acted_L553 x m sc g w n I i).1)))) (S, (L_acted_L553 x m sc g w n I i).2, V, z_)), ow_W X 0 0 (S, I, V, z) 553 [(0, .ref x), (1, .ref m), (17, .int i)] [] := by
    intro n
    induction n with
    | zero => intro I i hJ hm; omega
    | succ n ih =>
      intro I i hJ hm hk
      dsimp only [L_acted_L553] at hk
      obtain ⟨B', hI', hB'⟩ := hJ
      refine or_iload E rfl dL_acted_553 ?_
      refine or_if_lt 574 E dL_acted_555 rfl (fun q555 => ?_) (fun q555 => ?_)
      · replace hk := ite_p (P := fun r : Bool × ow_I => ∀ z_ : Nat, z ≤ z_ → K 0 (some (.int (bi ((r).1)))) (S, (r).2, V, z_)) q555 hk
        refine or_aload_n E rfl dL_acted_574 ?_
        refine or_fV0r (cA_nextNodder (Z := Z)  h_x hI'.1.1) E G F lk_120_223 dL_acted_575 h_x.1 rfl rfl (by decide) (by decide) ⟨(Nat.le_of_ble_eq_true rfl), (Nat.le_of_ble_eq_true rfl)⟩ (Nat.le_of_ble_eq_true rfl) (fun _ => ?_) (fun h => absurd h (Nat.lt_irrefl 0))
        refine or_aload_n E rfl dL_acted_578 ?_
        refine or_aload_n E rfl dL_acted_579 ?_
        refine or_fT2r (tL_nodder (Z := Z)  h_x h_m hI') E G F lk_120_226 dL_acted_580 (by decide) (by decide) ⟨(Nat.le_of_ble_eq_true rfl), (Nat.le_of_ble_eq_true rfl)⟩ (Nat.le_of_ble_eq_true rfl) (fun _ => ?_) (fun h => absurd h (Nat.lt_irrefl 0))
        refine or_icmp_ne 597 E dL_acted_583 rfl (fun q583 => ?_) (fun q583 => ?_)
        · replace hk := ite_n (P := fun r : Bool × ow_I => ∀ z_ : Nat, z ≤ z_ → K 0 (some (.int (bi ((r).1)))) (S, (r).2, V, z_)) q583 hk
          refine or_iconst (v := nI 0) E rfl dL_acted_597 ?_
          try dsimp only at hk
          exact or_xr E F (fun X' E' F' => or_zret E' F' dL_acted_598 (Nat.le_of_ble_eq_true rfl) (Nat.le_of_ble_eq_true rfl) (bi_nar false) (hk _ (Nat.le_refl _)))
        · replace hk := ite_p (P := fun r : Bool × ow_I => ∀ z_ : Nat, z ≤ z_ → K 0 (some (.int (bi ((r).1)))) (S, (r).2, V, z_)) q583 hk
          refine or_aload_n E rfl dL_acted_586 ?_
          refine or_fV0r (cA_coinError (Z := Z)  h_x hI'.1) E G F lk_120_211 dL_acted_587 h_x.1 rfl rfl (by decide) (by decide) ⟨(Nat.le_of_ble_eq_true rfl), (Nat.le_of_ble_eq_true rfl)⟩ (Nat.le_of_ble_eq_true rfl) (fun _ => ?_) (fun h => absurd h (Nat.lt_irrefl 0))
          refine or_if_ne 597 E dL_acted_590 rfl (fun q590 => ?_) (fun q590 => ?_)
          · replace hk := ite_n (P := fun r : Bool × ow_I => ∀ z_ : Nat, z ≤ z_ → K 0 (some (.int (bi ((r).1)))) (S, (r).2, V, z_)) q590 hk
            refine or_iconst (v := nI 0) E rfl dL_acted_597 ?_
            try dsimp only at hk
            exact or_xr E F (fun X' E' F' => or_zret E' F' dL_acted_598 (Nat.le_of_ble_eq_true rfl) (Nat.le_of_ble_eq_true rfl) (bi_nar false) (hk _ (Nat.le_refl _)))
          · replace hk := ite_p (P := fun r : Bool × ow_I => ∀ z_ : Nat, z ≤ z_ → K 0 (some (.int (bi ((r).1)))) (S, (r).2, V, z_)) q590 hk
            refine or_iconst (v := nI 1) E rfl dL_acted_593 ?_
            refine or_goto 598 E dL_acted_594 rfl ?_
            try dsimp only at hk
            exact or_xr E F (fun X' E' F' => or_zret E' F' dL_acted_598 (Nat.le_of_ble_eq_true rfl) (Nat.le_of_ble_eq_true rfl) (bi_nar true) (hk _ (Nat.le_refl _)))
      · replace hk := ite_n (P := fun r : Bool × ow_I => ∀ z_ : Nat, z ≤ z_ → K 0 (some (.int (bi ((r).1)))) (S, (r).2, V, z_)) q555 hk
        refine or_aload_n E rfl dL_acted_558 ?_
        refine or_aload_n E rfl dL_acted_559 ?_
        refine or_fT2r (tL_minute (Z := Z)  h_x h_m hI' (hM _ _ hI' (by have := cnt_d q555; omega)).1 (hM _ _ hI' (by have := cnt_d q555; omega)).2.1 (hM _ _ hI' (by have := cnt_d q555; omega)).2.2.1) E G F lk_120_220 dL_acted_560 (by decide) (by decide) ⟨(Nat.le_of_ble_eq_true rfl), (Nat.le_of_ble_eq_true rfl)⟩ (Nat.le_of_ble_eq_true rfl) (fun _ => ?_) (fun h => absurd h (Nat.lt_irrefl 0))
        obtain ⟨r12, hr12⟩ : ∃ y_ : Bool × ow_I, y_ = L_minute x m I := ⟨_, rfl⟩
        replace hk := lt_k (P := fun r : Bool × ow_I => ∀ z_ : Nat, z ≤ z_ → K 0 (some (.int (bi ((r).1)))) (S, (r).2, V, z_)) hr12 hk
        refine or_nmZ hr12 ?_
        refine or_if_neZ 568 E dL_acted_563 rfl (fun q563 => ?_) (fun q563 => ?_)
        · replace hk := ite_p (P := fun r : Bool × ow_I => ∀ z_ : Nat, z ≤ z_ → K 0 (some (.int (bi ((r).1)))) (S, (r).2, V, z_)) q563 hk
          refine or_iinc E dL_acted_568 rfl (by decide) ?_
          refine or_goto 553 E dL_acted_571 rfl ?_
          refine or_lv _ ?_ (ih _ _ (by subst hr12; exact (mstp hM hI' hB' q555 q563)) (by subst hr12; have := cnt_d q555; omega) hk)
          rfl
        · replace hk := ite_n (P := fun r : Bool × ow_I => ∀ z_ : Nat, z ≤ z_ → K 0 (some (.int (bi ((r).1)))) (S, (r).2, V, z_)) (bz_neg q563) hk
          refine or_iconst (v := nI 0) E rfl dL_acted_566 ?_
          try dsimp only at hk
          exact or_xr E F (fun X' E' F' => or_zret E' F' dL_acted_567 (Nat.le_of_ble_eq_true rfl) (Nat.le_of_ble_eq_true rfl) (bi_nar false) (hk _ (Nat.le_refl _)))
  try dsimp only [L_acted] at hk
  refine or_aload_n E rfl dL_acted_0 ?_
  refine or_fV0r (cA_barrelCount (Z := Z)  h_x ) E G F lk_120_177 dL_acted_1 h_x.1 rfl rfl (by decide) (by decide) ⟨(Nat.le_of_ble_eq_true rfl), (Nat.le_of_ble_eq_true rfl)⟩ (Nat.le_of_ble_eq_true rfl) (fun _ => ?_) (fun h => absurd h (Nat.lt_irrefl 0))
  refine or_top (nI_tn (mk_nbar hI.2.2.1).1).symm ?_
  refine or_istore E dL_acted_4 (by decide) ?_
  refine or_aload_n E rfl dL_acted_6 ?_
  refine or_iload_n E rfl dL_acted_7 ?_
  refine or_iconst (v := nI 1) E rfl dL_acted_8 ?_
  refine or_iaddN E dL_acted_9 ?_
  refine or_aload_n E rfl dL_acted_10 ?_
  refine or_fV0r (cA_buyerCount (Z := Z)  h_x ) E G F lk_120_63 dL_acted_11 h_x.1 rfl rfl (by decide) (by decide) ⟨(Nat.le_of_ble_eq_true rfl), (Nat.le_of_ble_eq_true rfl)⟩ (Nat.le_of_ble_eq_true rfl) (fun _ => ?_) (fun h => absurd h (Nat.lt_irrefl 0))
  refine or_top (nI_tn (li_n8 hI)).symm ?_
  refine or_fT3r (tL_pick (Z := Z) (k := g + 1) (n := tn (A_buyerCount x I)) (by omega) (by omega) (by omega)) E G F lk_120_27 dL_acted_14 (by decide) (by decide) ⟨by omega, by omega⟩ (Nat.le_of_ble_eq_true rfl) (fun _ => ?_) (fun h => absurd h (Nat.lt_irrefl 0))
  refine or_top (y := nI (w (g + 1) (tn (A_buyerCount x I)))) (by rw [hw]) ?_
  refine or_istore E dL_acted_17 (by decide) ?_
  obtain ⟨b19, hb19⟩ : ∃ y_ : Int32, y_ = if tn (A_barrelCount x I) = 0 then (-1) else nI (w (g + 2) (tn (A_barrelCount x I))) := ⟨_, rfl⟩
  replace hk := lt_k (P := fun r : Bool × ow_I => ∀ z_ : Nat, z ≤ z_ → K 0 (some (.int (bi ((r).1)))) (S, (r).2, V, z_)) hb19 hk
  have J19 : ow_W X 0 0 (S, I, V, z) 37 [(0, .ref x), (1, .ref m), (2, .ref (Z 34)), (3, .int (nI g)), (4, .int (nI (tn (A_barrelCount x I)))), (5, .int (nI (w (g + 1) (tn (A_buyerCount x I)))))] [.int b19] := by
    have hc19 : ¬ b19 < 0 → 0 ≤ b19 ∧ tn b19 < tn (I (x + 1) 10) := fun h => b19v hb19 (fun hp => pw hw _ hp) h10 h
    refine or_istore E dL_acted_37 (by decide) ?_
    refine or_aload_n E rfl dL_acted_39 ?_
    refine or_iload_n E rfl dL_acted_40 ?_
    refine or_bipush (v := nI 14) E rfl dL_acted_41 ?_
    refine or_fT3r (tL_pick (Z := Z) (k := g) (n := 14) (by omega) (by omega) (by omega)) E G F lk_120_27 dL_acted_43 (by decide) (by decide) ⟨by omega, by omega⟩ (Nat.le_of_ble_eq_true rfl) (fun _ => ?_) (fun h => absurd h (Nat.lt_irrefl 0))
    refine or_top (y := nI (w g 14)) (by rw [hw]) ?_
    refine or_istore E dL_acted_46 (by decide) ?_
    obtain ⟨b48, hb48⟩ : ∃ y_ : Bool, y_ = if b19 < 0 then true else if w g 14 = 0 then true else false := ⟨_, rfl⟩
    replace hk := lt_k (P := fun r : Bool × ow_I => ∀ z_ : Nat, z ≤ z_ → K 0 (some (.int (bi ((r).1)))) (S, (r).2, V, z_)) hb48 hk
    have J48t : b48 = true → ow_W X 0 0 (S, I, V, z) 58 [(0, .ref x), (1, .ref m), (2, .ref (Z 34)), (3, .int (nI g)), (4, .int (nI (tn (A_barrelCount x I)))), (5, .int (nI (w (g + 1) (tn (A_buyerCount x I))))), (6, .int b19), (7, .int (nI (w g 14)))] [] := by
      intro hb48v
      replace hk := ite_p (P := fun r : Bool × ow_I => ∀ z_ : Nat, z ≤ z_ → K 0 (some (.int (bi ((r).1)))) (S, (r).2, V, z_)) hb48v hk
      have hc48 : b48 = false → ¬ b19 < 0 := fun h hn => by rw [hb48, if_pos hn] at h; exact absurd h (by decide)
      refine or_iload E rfl dL_acted_58 ?_
      refine or_bipush (v := nI 20) E rfl dL_acted_60 ?_
      refine or_icmp_neN 67 E dL_acted_62 rfl (by omega) (by decide) (fun q62 => ?_) (fun q62 => ?_)
      · replace hk := ite_n (P := fun r : Bool × ow_I => ∀ z_ : Nat, z ≤ z_ → K 0 (some (.int (bi ((r).1)))) (S, (r).2, V, z_)) q62 hk
        refine or_iconst (v := nI 1) E rfl dL_acted_67 ?_
        refine or_aload_n E rfl dL_acted_68 ?_
        refine or_iload_n E rfl dL_acted_69 ?_
        refine or_iconst (v := nI 1) E rfl dL_acted_70 ?_
        refine or_iaddN E dL_acted_71 ?_
        refine or_bipush (v := nI 9) E rfl dL_acted_72 ?_
        refine or_fT3r (tL_pick (Z := Z) (k := g + 1) (n := 9) (by omega) (by omega) (by omega)) E G F lk_120_27 dL_acted_74 (by decide) (by decide) ⟨by omega, by omega⟩ (Nat.le_of_ble_eq_true rfl) (fun _ => ?_) (fun h => absurd h (Nat.lt_irrefl 0))
        refine or_top (y := nI (w (g + 1) 9)) (by rw [hw]) ?_
        refine or_iaddN E dL_acted_77 ?_
        refine or_istore E dL_acted_78 (by decide) ?_
        refine or_bipush (v := nI 10) E rfl dL_acted_80 ?_
        refine or_aload_n E rfl dL_acted_82 ?_
        refine or_iload_n E rfl dL_acted_83 ?_
        refine or_iconst (v := nI 2) E rfl dL_acted_84 ?_
        refine or_iaddN E dL_acted_85 ?_
        refine or_sipush (v := nI 141) E rfl dL_acted_86 ?_
        refine or_fT3r (tL_pick (Z := Z) (k := g + 2) (n := 141) (by omega) (by omega) (by omega)) E G F lk_120_27 dL_acted_89 (by decide) (by decide) ⟨by omega, by omega⟩ (Nat.le_of_ble_eq_true rfl) (fun _ => ?_) (fun h => absurd h (Nat.lt_irrefl 0))
        refine or_top (y := nI (w (g + 2) 141)) (by rw [hw]) ?_
        refine or_iaddN E dL_acted_92 ?_
        refine or_istore E dL_acted_93 (by decide) ?_
        refine or_aload_n E rfl dL_acted_95 ?_
        refine or_iconst (v := nI 1) E rfl dL_acted_96 ?_
        refine or_aload_n E rfl dL_acted_97 ?_
        refine or_iload_n E rfl dL_acted_98 ?_
        refine or_iconst (v := nI 1) E rfl dL_acted_99 ?_
        refine or_iaddN E dL_acted_100 ?_
        refine or_bipush (v := nI 90) E rfl dL_acted_101 ?_
        refine or_fT3r (tL_pick (Z := Z) (k := g + 1) (n := 90) (by omega) (by omega) (by omega)) E G F lk_120_27 dL_acted_103 (by decide) (by decide) ⟨by omega, by omega⟩ (Nat.le_of_ble_eq_true rfl) (fun _ => ?_) (fun h => absurd h (Nat.lt_irrefl 0))
        refine or_top (y := nI (w (g + 1) 90)) (by rw [hw]) ?_
        refine or_iaddN E dL_acted_106 ?_
        refine or_iload E rfl dL_acted_107 ?_
        refine or_iload E rfl dL_acted_109 ?_
        refine or_fV3r (cA_addBarrel (Z := Z)  h_x hI.1 (nI_rg (by omega) (by omega)) (nI_rg (by omega) (by omega)) (nI_rg (by omega) (by omega)) (nI_rg (by omega) (by omega)) (nI_rg (by omega) (by omega)) (nI_rg (by omega) (by omega)) (hA (1 + w (g + 1) 90) (1 + w (g + 1) 9) (10 + w (g + 2) 141) (by omega) (by omega) (by omega) (by omega) (by omega) (by omega) q62).1) E G F lk_120_186 dL_acted_111 h_x.1 rfl rfl (by decide) (by decide) ⟨(Nat.le_of_ble_eq_true rfl), (Nat.le_of_ble_eq_true rfl)⟩ (Nat.le_of_ble_eq_true rfl) (fun _ => ?_) (fun h => absurd h (Nat.lt_irrefl 0))
        obtain ⟨r1, hr1⟩ : ∃ y_ : Int32 × ow_I, y_ = A_addBarrel x (nI (1 + (w (g + 1) 90))) (nI (1 + (w (g + 1) 9))) (nI (10 + (w (g + 2) 141))) I := ⟨_, rfl⟩
        replace hk := lt_k (P := fun r : Bool × ow_I => ∀ z_ : Nat, z ≤ z_ → K 0 (some (.int (bi ((r).1)))) (S, (r).2, V, z_)) hr1 hk
        refine or_nmJ hr1 ?_
        refine or_iload E rfl dL_acted_114 ?_
        refine or_icmp_ne 168 E dL_acted_116 rfl (fun q116 => ?_) (fun q116 => ?_)
        · replace hk := ite_n (P := fun r : Bool × ow_I => ∀ z_ : Nat, z ≤ z_ → K 0 (some (.int (bi ((r).1)))) (S, (r).2, V, z_)) q116 hk
          refine or_iconst (v := nI 0) E rfl dL_acted_168 ?_
          try dsimp only at hk
          exact or_xr E F (fun X' E' F' => or_zret E' F' dL_acted_169 (Nat.le_of_ble_eq_true rfl) (Nat.le_of_ble_eq_true rfl) (bi_nar false) (hk _ (Nat.le_refl _)))
        · replace hk := ite_p (P := fun r : Bool × ow_I => ∀ z_ : Nat, z ≤ z_ → K 0 (some (.int (bi ((r).1)))) (S, (r).2, V, z_)) q116 hk
          refine or_aload_n E rfl dL_acted_119 ?_
          refine or_iload E rfl dL_acted_120 ?_
          refine or_fV1r (cA_eels (Z := Z)  h_x (by subst hr1; exact (hA (1 + w (g + 1) 90) (1 + w (g + 1) 9) (10 + w (g + 2) 141) (by omega) (by omega) (by omega) (by omega) (by omega) (by omega) q62).2.1.1) (by subst hr1; exact (hA (1 + w (g + 1) 90) (1 + w (g + 1) 9) (10 + w (g + 2) 141) (by omega) (by omega) (by omega) (by omega) (by omega) (by omega) q62).2.2)) E G F lk_120_79 dL_acted_122 h_x.1 rfl rfl (by decide) (by decide) ⟨(Nat.le_of_ble_eq_true rfl), (Nat.le_of_ble_eq_true rfl)⟩ (Nat.le_of_ble_eq_true rfl) (fun _ => ?_) (fun h => absurd h (Nat.lt_irrefl 0))
          refine or_iload E rfl dL_acted_125 ?_
          refine or_icmp_ne 168 E dL_acted_127 rfl (fun q127 => ?_) (fun q127 => ?_)
          · replace hk := ite_n (P := fun r : Bool × ow_I => ∀ z_ : Nat, z ≤ z_ → K 0 (some (.int (bi ((r).1)))) (S, (r).2, V, z_)) q127 hk
            refine or_iconst (v := nI 0) E rfl dL_acted_168 ?_
            try dsimp only at hk
            exact or_xr E F (fun X' E' F' => or_zret E' F' dL_acted_169 (Nat.le_of_ble_eq_true rfl) (Nat.le_of_ble_eq_true rfl) (bi_nar false) (hk _ (Nat.le_refl _)))
          · replace hk := ite_p (P := fun r : Bool × ow_I => ∀ z_ : Nat, z ≤ z_ → K 0 (some (.int (bi ((r).1)))) (S, (r).2, V, z_)) q127 hk
            refine or_aload_n E rfl dL_acted_130 ?_
            refine or_iload E rfl dL_acted_131 ?_
            refine or_fV1r (cA_totalLength (Z := Z)  h_x (by subst hr1; exact (hA (1 + w (g + 1) 90) (1 + w (g + 1) 9) (10 + w (g + 2) 141) (by omega) (by omega) (by omega) (by omega) (by omega) (by omega) q62).2.1.1) (by subst hr1; exact (hA (1 + w (g + 1) 90) (1 + w (g + 1) 9) (10 + w (g + 2) 141) (by omega) (by omega) (by omega) (by omega) (by omega) (by omega) q62).2.2)) E G F lk_120_180 dL_acted_133 h_x.1 rfl rfl (by decide) (by decide) ⟨(Nat.le_of_ble_eq_true rfl), (Nat.le_of_ble_eq_true rfl)⟩ (Nat.le_of_ble_eq_true rfl) (fun _ => ?_) (fun h => absurd h (Nat.lt_irrefl 0))
            refine or_iload E rfl dL_acted_136 ?_
            refine or_iload E rfl dL_acted_138 ?_
            refine or_imulN E dL_acted_140 ?_
            refine or_icmp_ne 168 E dL_acted_141 rfl (fun q141 => ?_) (fun q141 => ?_)
            · replace hk := ite_n (P := fun r : Bool × ow_I => ∀ z_ : Nat, z ≤ z_ → K 0 (some (.int (bi ((r).1)))) (S, (r).2, V, z_)) q141 hk
              refine or_iconst (v := nI 0) E rfl dL_acted_168 ?_
              try dsimp only at hk
              exact or_xr E F (fun X' E' F' => or_zret E' F' dL_acted_169 (Nat.le_of_ble_eq_true rfl) (Nat.le_of_ble_eq_true rfl) (bi_nar false) (hk _ (Nat.le_refl _)))
            · replace hk := ite_p (P := fun r : Bool × ow_I => ∀ z_ : Nat, z ≤ z_ → K 0 (some (.int (bi ((r).1)))) (S, (r).2, V, z_)) q141 hk
              refine or_aload_n E rfl dL_acted_144 ?_
              refine or_iload E rfl dL_acted_145 ?_
              refine or_fV1r (cA_middleLength (Z := Z)  h_x (by subst hr1; exact (hA (1 + w (g + 1) 90) (1 + w (g + 1) 9) (10 + w (g + 2) 141) (by omega) (by omega) (by omega) (by omega) (by omega) (by omega) q62).2.1) (by subst hr1; exact (hA (1 + w (g + 1) 90) (1 + w (g + 1) 9) (10 + w (g + 2) 141) (by omega) (by omega) (by omega) (by omega) (by omega) (by omega) q62).2.2)) E G F lk_120_190 dL_acted_147 h_x.1 rfl rfl (by decide) (by decide) ⟨(Nat.le_of_ble_eq_true rfl), (Nat.le_of_ble_eq_true rfl)⟩ (Nat.le_of_ble_eq_true rfl) (fun _ => ?_) (fun h => absurd h (Nat.lt_irrefl 0))
              refine or_iload E rfl dL_acted_150 ?_
              refine or_icmp_ne 168 E dL_acted_152 rfl (fun q152 => ?_) (fun q152 => ?_)
              · replace hk := ite_n (P := fun r : Bool × ow_I => ∀ z_ : Nat, z ≤ z_ → K 0 (some (.int (bi ((r).1)))) (S, (r).2, V, z_)) q152 hk
                refine or_iconst (v := nI 0) E rfl dL_acted_168 ?_
                try dsimp only at hk
                exact or_xr E F (fun X' E' F' => or_zret E' F' dL_acted_169 (Nat.le_of_ble_eq_true rfl) (Nat.le_of_ble_eq_true rfl) (bi_nar false) (hk _ (Nat.le_refl _)))
              · replace hk := ite_p (P := fun r : Bool × ow_I => ∀ z_ : Nat, z ≤ z_ → K 0 (some (.int (bi ((r).1)))) (S, (r).2, V, z_)) q152 hk
                refine or_aload_n E rfl dL_acted_155 ?_
                refine or_iload E rfl dL_acted_156 ?_
                refine or_fV1r (cA_stateOf (Z := Z)  h_x (by subst hr1; exact (hA (1 + w (g + 1) 90) (1 + w (g + 1) 9) (10 + w (g + 2) 141) (by omega) (by omega) (by omega) (by omega) (by omega) (by omega) q62).2.1.1) (by subst hr1; exact (hA (1 + w (g + 1) 90) (1 + w (g + 1) 9) (10 + w (g + 2) 141) (by omega) (by omega) (by omega) (by omega) (by omega) (by omega) q62).2.2)) E G F lk_120_157 dL_acted_158 h_x.1 rfl rfl (by decide) (by decide) ⟨(Nat.le_of_ble_eq_true rfl), (Nat.le_of_ble_eq_true rfl)⟩ (Nat.le_of_ble_eq_true rfl) (fun _ => ?_) (fun h => absurd h (Nat.lt_irrefl 0))
                refine or_if_ne 168 E dL_acted_161 rfl (fun q161 => ?_) (fun q161 => ?_)
                · replace hk := ite_n (P := fun r : Bool × ow_I => ∀ z_ : Nat, z ≤ z_ → K 0 (some (.int (bi ((r).1)))) (S, (r).2, V, z_)) q161 hk
                  refine or_iconst (v := nI 0) E rfl dL_acted_168 ?_
                  try dsimp only at hk
                  exact or_xr E F (fun X' E' F' => or_zret E' F' dL_acted_169 (Nat.le_of_ble_eq_true rfl) (Nat.le_of_ble_eq_true rfl) (bi_nar false) (hk _ (Nat.le_refl _)))
                · replace hk := ite_p (P := fun r : Bool × ow_I => ∀ z_ : Nat, z ≤ z_ → K 0 (some (.int (bi ((r).1)))) (S, (r).2, V, z_)) q161 hk
                  refine or_iconst (v := nI 1) E rfl dL_acted_164 ?_
                  refine or_goto 169 E dL_acted_165 rfl ?_
                  try dsimp only at hk
                  exact or_xr E F (fun X' E' F' => or_zret E' F' dL_acted_169 (Nat.le_of_ble_eq_true rfl) (Nat.le_of_ble_eq_true rfl) (bi_nar true) (hk _ (Nat.le_refl _)))
      · replace hk := ite_p (P := fun r : Bool × ow_I => ∀ z_ : Nat, z ≤ z_ → K 0 (some (.int (bi ((r).1)))) (S, (r).2, V, z_)) q62 hk
        refine or_iconst (v := nI 1) E rfl dL_acted_65 ?_
        try dsimp only at hk
        exact or_xr E F (fun X' E' F' => or_zret E' F' dL_acted_66 (Nat.le_of_ble_eq_true rfl) (Nat.le_of_ble_eq_true rfl) (bi_nar true) (hk _ (Nat.le_refl _)))
    have J48f : b48 = false → ow_W X 0 0 (S, I, V, z) 170 [(0, .ref x), (1, .ref m), (2, .ref (Z 34)), (3, .int (nI g)), (4, .int (nI (tn (A_barrelCount x I)))), (5, .int (nI (w (g + 1) (tn (A_buyerCount x I))))), (6, .int b19), (7, .int (nI (w g 14)))] [] := by
      intro hb48v
      replace hk := ite_n (P := fun r : Bool × ow_I => ∀ z_ : Nat, z ≤ z_ → K 0 (some (.int (bi ((r).1)))) (S, (r).2, V, z_)) (bz_neg hb48v) hk
      have hc48 : b48 = false → ¬ b19 < 0 := fun h hn => by rw [hb48, if_pos hn] at h; exact absurd h (by decide)
      refine or_iload E rfl dL_acted_170 ?_
      refine or_tab6 (lo := 1) 212 212 336 354 420 471 542 E dL_acted_172 (by decide) rfl rfl rfl rfl rfl rfl rfl (fun q172_0 => ?_) (fun q172_0 q172_1 => ?_) (fun q172_0 q172_1 q172_2 => ?_) (fun q172_0 q172_1 q172_2 q172_3 => ?_) (fun q172_0 q172_1 q172_2 q172_3 q172_4 => ?_) (fun q172_0 q172_1 q172_2 q172_3 q172_4 q172_5 => ?_) (fun q172_0 q172_1 q172_2 q172_3 q172_4 q172_5 => ?_)
      · replace hk := ite_p (P := fun r : Bool × ow_I => ∀ z_ : Nat, z ≤ z_ → K 0 (some (.int (bi ((r).1)))) (S, (r).2, V, z_)) q172_0 hk
        refine or_aload_n E rfl dL_acted_212 ?_
        refine or_aload_n E rfl dL_acted_213 ?_
        refine or_iload E rfl dL_acted_214 ?_
        refine or_fT3r (tL_reason (Z := Z)  h_x h_m hI hy) E G F lk_120_125 dL_acted_216 (by decide) (by decide) ⟨(Nat.le_of_ble_eq_true rfl), (Nat.le_of_ble_eq_true rfl)⟩ (Nat.le_of_ble_eq_true rfl) (fun _ => ?_) (fun h => absurd h (Nat.lt_irrefl 0))
        refine or_istore E dL_acted_219 (by decide) ?_
        refine or_aload_n E rfl dL_acted_221 ?_
        refine or_fV0r (cA_nextBid (Z := Z)  h_x hI.1.1) E G F lk_120_133 dL_acted_222 h_x.1 rfl rfl (by decide) (by decide) ⟨(Nat.le_of_ble_eq_true rfl), (Nat.le_of_ble_eq_true rfl)⟩ (Nat.le_of_ble_eq_true rfl) (fun _ => ?_) (fun h => absurd h (Nat.lt_irrefl 0))
        refine or_istore E dL_acted_225 (by decide) ?_
        refine or_aload_n E rfl dL_acted_227 ?_
        refine or_iload E rfl dL_acted_228 ?_
        refine or_fV1r (cA_nods (Z := Z)  h_x hI.1.1 hy) E G F lk_120_193 dL_acted_230 h_x.1 rfl rfl (by decide) (by decide) ⟨(Nat.le_of_ble_eq_true rfl), (Nat.le_of_ble_eq_true rfl)⟩ (Nat.le_of_ble_eq_true rfl) (fun _ => ?_) (fun h => absurd h (Nat.lt_irrefl 0))
        refine or_istore E dL_acted_233 (by decide) ?_
        refine or_aload_n E rfl dL_acted_235 ?_
        refine or_iload E rfl dL_acted_236 ?_
        refine or_fV1r (cA_whyNotNod (Z := Z)  h_x hI.1 hy) E G F lk_120_196 dL_acted_238 h_x.1 rfl rfl (by decide) (by decide) ⟨(Nat.le_of_ble_eq_true rfl), (Nat.le_of_ble_eq_true rfl)⟩ (Nat.le_of_ble_eq_true rfl) (fun _ => ?_) (fun h => absurd h (Nat.lt_irrefl 0))
        refine or_iload E rfl dL_acted_241 ?_
        refine or_icmp_eq 248 E dL_acted_243 rfl (fun q243 => ?_) (fun q243 => ?_)
        · replace hk := ite_p (P := fun r : Bool × ow_I => ∀ z_ : Nat, z ≤ z_ → K 0 (some (.int (bi ((r).1)))) (S, (r).2, V, z_)) q243 hk
          refine or_iload E rfl dL_acted_248 ?_
          refine or_if_le 281 E dL_acted_250 rfl (fun q250 => ?_) (fun q250 => ?_)
          · replace hk := ite_p (P := fun r : Bool × ow_I => ∀ z_ : Nat, z ≤ z_ → K 0 (some (.int (bi ((r).1)))) (S, (r).2, V, z_)) q250 hk
            refine or_aload_n E rfl dL_acted_281 ?_
            refine or_iload E rfl dL_acted_282 ?_
            refine oy_S [.ref x, .int (nI (w (g + 1) (tn (A_buyerCount x I))))] (tL_nod (Z := Z) h_x hI.1 hy) E G lh_120_199 dL_acted_284 rfl (by decide) (by decide) ⟨by omega, by omega⟩ (Nat.le_of_ble_eq_true rfl) (fun r h1 q => ?_)
            obtain ⟨rfl, z2, hz2, rfl⟩ := q
            obtain ⟨r2, hr2⟩ : ∃ y_ : Int32 × ow_I, y_ = L_nod x (nI (w (g + 1) (tn (A_buyerCount x I)))) I := ⟨_, rfl⟩
            replace hk := lt_k (P := fun r : Bool × ow_I => ∀ z_ : Nat, z ≤ z_ → K 0 (some (.int (bi ((r).1)))) (S, (r).2, V, z_)) hr2 hk
            refine or_nmJ hr2 ?_
            refine or_iload E rfl dL_acted_287 ?_
            refine or_icmp_ne 334 E dL_acted_289 rfl (fun q289 => ?_) (fun q289 => ?_)
            · replace hk := ite_n (P := fun r : Bool × ow_I => ∀ z_ : Nat, z ≤ z_ → K 0 (some (.int (bi ((r).1)))) (S, (r).2, V, z_)) q289 hk
              refine or_iconst (v := nI 0) E rfl dL_acted_334 ?_
              try dsimp only at hk
              exact or_xr E F (fun X' E' F' => or_zret E' F' dL_acted_335 (Nat.le_of_ble_eq_true rfl) (Nat.le_of_ble_eq_true rfl) (bi_nar false) (hk _ (Nat.le_trans (Nat.le_refl _) hz2)))
            · replace hk := ite_p (P := fun r : Bool × ow_I => ∀ z_ : Nat, z ≤ z_ → K 0 (some (.int (bi ((r).1)))) (S, (r).2, V, z_)) q289 hk
              refine or_aload_n E rfl dL_acted_292 ?_
              refine or_fV0r (cA_leader (Z := Z)  h_x ) E G F lk_120_106 dL_acted_293 h_x.1 rfl rfl (by decide) (by decide) ⟨(Nat.le_of_ble_eq_true rfl), (Nat.le_of_ble_eq_true rfl)⟩ (Nat.le_of_ble_eq_true rfl) (fun _ => ?_) (fun h => absurd h (Nat.lt_irrefl 0))
              refine or_iload E rfl dL_acted_296 ?_
              refine or_icmp_ne 334 E dL_acted_298 rfl (fun q298 => ?_) (fun q298 => ?_)
              · replace hk := ite_n (P := fun r : Bool × ow_I => ∀ z_ : Nat, z ≤ z_ → K 0 (some (.int (bi ((r).1)))) (S, (r).2, V, z_)) q298 hk
                refine or_iconst (v := nI 0) E rfl dL_acted_334 ?_
                try dsimp only at hk
                exact or_xr E F (fun X' E' F' => or_zret E' F' dL_acted_335 (Nat.le_of_ble_eq_true rfl) (Nat.le_of_ble_eq_true rfl) (bi_nar false) (hk _ (Nat.le_trans (Nat.le_refl _) hz2)))
              · replace hk := ite_p (P := fun r : Bool × ow_I => ∀ z_ : Nat, z ≤ z_ → K 0 (some (.int (bi ((r).1)))) (S, (r).2, V, z_)) q298 hk
                refine or_aload_n E rfl dL_acted_301 ?_
                refine or_fV0r (cA_bid (Z := Z)  h_x ) E G F lk_120_112 dL_acted_302 h_x.1 rfl rfl (by decide) (by decide) ⟨(Nat.le_of_ble_eq_true rfl), (Nat.le_of_ble_eq_true rfl)⟩ (Nat.le_of_ble_eq_true rfl) (fun _ => ?_) (fun h => absurd h (Nat.lt_irrefl 0))
                refine or_iload E rfl dL_acted_305 ?_
                refine or_icmp_ne 334 E dL_acted_307 rfl (fun q307 => ?_) (fun q307 => ?_)
                · replace hk := ite_n (P := fun r : Bool × ow_I => ∀ z_ : Nat, z ≤ z_ → K 0 (some (.int (bi ((r).1)))) (S, (r).2, V, z_)) q307 hk
                  refine or_iconst (v := nI 0) E rfl dL_acted_334 ?_
                  try dsimp only at hk
                  exact or_xr E F (fun X' E' F' => or_zret E' F' dL_acted_335 (Nat.le_of_ble_eq_true rfl) (Nat.le_of_ble_eq_true rfl) (bi_nar false) (hk _ (Nat.le_trans (Nat.le_refl _) hz2)))
                · replace hk := ite_p (P := fun r : Bool × ow_I => ∀ z_ : Nat, z ≤ z_ → K 0 (some (.int (bi ((r).1)))) (S, (r).2, V, z_)) q307 hk
                  refine or_aload_n E rfl dL_acted_310 ?_
                  refine or_fV0r (cA_quiet (Z := Z)  h_x ) E G F lk_120_136 dL_acted_311 h_x.1 rfl rfl (by decide) (by decide) ⟨(Nat.le_of_ble_eq_true rfl), (Nat.le_of_ble_eq_true rfl)⟩ (Nat.le_of_ble_eq_true rfl) (fun _ => ?_) (fun h => absurd h (Nat.lt_irrefl 0))
                  refine or_if_ne 334 E dL_acted_314 rfl (fun q314 => ?_) (fun q314 => ?_)
                  · replace hk := ite_n (P := fun r : Bool × ow_I => ∀ z_ : Nat, z ≤ z_ → K 0 (some (.int (bi ((r).1)))) (S, (r).2, V, z_)) q314 hk
                    refine or_iconst (v := nI 0) E rfl dL_acted_334 ?_
                    try dsimp only at hk
                    exact or_xr E F (fun X' E' F' => or_zret E' F' dL_acted_335 (Nat.le_of_ble_eq_true rfl) (Nat.le_of_ble_eq_true rfl) (bi_nar false) (hk _ (Nat.le_trans (Nat.le_refl _) hz2)))
                  · replace hk := ite_p (P := fun r : Bool × ow_I => ∀ z_ : Nat, z ≤ z_ → K 0 (some (.int (bi ((r).1)))) (S, (r).2, V, z_)) q314 hk
                    refine or_aload_n E rfl dL_acted_317 ?_
                    refine or_iload E rfl dL_acted_318 ?_
                    refine or_fV1r (cA_nods (Z := Z)  h_x (by subst hr2; exact (hN _ hy).1.1) (by subst hr2; exact (vy_2 (hN _ hy).2 hy))) E G F lk_120_193 dL_acted_320 h_x.1 rfl rfl (by decide) (by decide) ⟨(Nat.le_of_ble_eq_true rfl), (Nat.le_of_ble_eq_true rfl)⟩ (Nat.le_of_ble_eq_true rfl) (fun _ => ?_) (fun h => absurd h (Nat.lt_irrefl 0))
                    refine or_iload E rfl dL_acted_323 ?_
                    refine or_iconst (v := nI 1) E rfl dL_acted_325 ?_
                    refine or_iadd E dL_acted_326 ?_
                    refine or_icmp_ne 334 E dL_acted_327 rfl (fun q327 => ?_) (fun q327 => ?_)
                    · replace hk := ite_n (P := fun r : Bool × ow_I => ∀ z_ : Nat, z ≤ z_ → K 0 (some (.int (bi ((r).1)))) (S, (r).2, V, z_)) q327 hk
                      refine or_iconst (v := nI 0) E rfl dL_acted_334 ?_
                      try dsimp only at hk
                      exact or_xr E F (fun X' E' F' => or_zret E' F' dL_acted_335 (Nat.le_of_ble_eq_true rfl) (Nat.le_of_ble_eq_true rfl) (bi_nar false) (hk _ (Nat.le_trans (Nat.le_refl _) hz2)))
                    · replace hk := ite_p (P := fun r : Bool × ow_I => ∀ z_ : Nat, z ≤ z_ → K 0 (some (.int (bi ((r).1)))) (S, (r).2, V, z_)) q327 hk
                      refine or_iconst (v := nI 1) E rfl dL_acted_330 ?_
                      refine or_goto 335 E dL_acted_331 rfl ?_
                      try dsimp only at hk
                      exact or_xr E F (fun X' E' F' => or_zret E' F' dL_acted_335 (Nat.le_of_ble_eq_true rfl) (Nat.le_of_ble_eq_true rfl) (bi_nar true) (hk _ (Nat.le_trans (Nat.le_refl _) hz2)))
          · replace hk := ite_n (P := fun r : Bool × ow_I => ∀ z_ : Nat, z ≤ z_ → K 0 (some (.int (bi ((r).1)))) (S, (r).2, V, z_)) q250 hk
            refine or_aload_n E rfl dL_acted_253 ?_
            refine or_iload E rfl dL_acted_254 ?_
            refine oy_S [.ref x, .int (nI (w (g + 1) (tn (A_buyerCount x I))))] (tL_nod (Z := Z) h_x hI.1 hy) E G lh_120_199 dL_acted_256 rfl (by decide) (by decide) ⟨by omega, by omega⟩ (Nat.le_of_ble_eq_true rfl) (fun r h1 q => ?_)
            obtain ⟨rfl, z3, hz3, rfl⟩ := q
            obtain ⟨r3, hr3⟩ : ∃ y_ : Int32 × ow_I, y_ = L_nod x (nI (w (g + 1) (tn (A_buyerCount x I)))) I := ⟨_, rfl⟩
            replace hk := lt_k (P := fun r : Bool × ow_I => ∀ z_ : Nat, z ≤ z_ → K 0 (some (.int (bi ((r).1)))) (S, (r).2, V, z_)) hr3 hk
            refine or_nmJ hr3 ?_
            refine or_bipush (v := -100) E rfl dL_acted_259 ?_
            refine or_icmp_ne 279 E dL_acted_261 rfl (fun q261 => ?_) (fun q261 => ?_)
            · replace hk := ite_n (P := fun r : Bool × ow_I => ∀ z_ : Nat, z ≤ z_ → K 0 (some (.int (bi ((r).1)))) (S, (r).2, V, z_)) q261 hk
              refine or_iconst (v := nI 0) E rfl dL_acted_279 ?_
              try dsimp only at hk
              exact or_xr E F (fun X' E' F' => or_zret E' F' dL_acted_280 (Nat.le_of_ble_eq_true rfl) (Nat.le_of_ble_eq_true rfl) (bi_nar false) (hk _ (Nat.le_trans (Nat.le_refl _) hz3)))
            · replace hk := ite_p (P := fun r : Bool × ow_I => ∀ z_ : Nat, z ≤ z_ → K 0 (some (.int (bi ((r).1)))) (S, (r).2, V, z_)) q261 hk
              refine or_aload_n E rfl dL_acted_264 ?_
              refine or_iload E rfl dL_acted_265 ?_
              refine or_fV1r (cA_nods (Z := Z)  h_x (by subst hr3; exact (hN _ hy).1.1) (by subst hr3; exact (vy_2 (hN _ hy).2 hy))) E G F lk_120_193 dL_acted_267 h_x.1 rfl rfl (by decide) (by decide) ⟨(Nat.le_of_ble_eq_true rfl), (Nat.le_of_ble_eq_true rfl)⟩ (Nat.le_of_ble_eq_true rfl) (fun _ => ?_) (fun h => absurd h (Nat.lt_irrefl 0))
              refine or_iload E rfl dL_acted_270 ?_
              refine or_icmp_ne 279 E dL_acted_272 rfl (fun q272 => ?_) (fun q272 => ?_)
              · replace hk := ite_n (P := fun r : Bool × ow_I => ∀ z_ : Nat, z ≤ z_ → K 0 (some (.int (bi ((r).1)))) (S, (r).2, V, z_)) q272 hk
                refine or_iconst (v := nI 0) E rfl dL_acted_279 ?_
                try dsimp only at hk
                exact or_xr E F (fun X' E' F' => or_zret E' F' dL_acted_280 (Nat.le_of_ble_eq_true rfl) (Nat.le_of_ble_eq_true rfl) (bi_nar false) (hk _ (Nat.le_trans (Nat.le_refl _) hz3)))
              · replace hk := ite_p (P := fun r : Bool × ow_I => ∀ z_ : Nat, z ≤ z_ → K 0 (some (.int (bi ((r).1)))) (S, (r).2, V, z_)) q272 hk
                refine or_iconst (v := nI 1) E rfl dL_acted_275 ?_
                refine or_goto 280 E dL_acted_276 rfl ?_
                try dsimp only at hk
                exact or_xr E F (fun X' E' F' => or_zret E' F' dL_acted_280 (Nat.le_of_ble_eq_true rfl) (Nat.le_of_ble_eq_true rfl) (bi_nar true) (hk _ (Nat.le_trans (Nat.le_refl _) hz3)))
        · replace hk := ite_n (P := fun r : Bool × ow_I => ∀ z_ : Nat, z ≤ z_ → K 0 (some (.int (bi ((r).1)))) (S, (r).2, V, z_)) q243 hk
          refine or_iconst (v := nI 0) E rfl dL_acted_246 ?_
          try dsimp only at hk
          exact or_xr E F (fun X' E' F' => or_zret E' F' dL_acted_247 (Nat.le_of_ble_eq_true rfl) (Nat.le_of_ble_eq_true rfl) (bi_nar false) (hk _ (Nat.le_refl _)))
      · replace hk := ite_n (P := fun r : Bool × ow_I => ∀ z_ : Nat, z ≤ z_ → K 0 (some (.int (bi ((r).1)))) (S, (r).2, V, z_)) q172_0 hk; replace hk := ite_p (P := fun r : Bool × ow_I => ∀ z_ : Nat, z ≤ z_ → K 0 (some (.int (bi ((r).1)))) (S, (r).2, V, z_)) q172_1 hk
        refine or_aload_n E rfl dL_acted_212 ?_
        refine or_aload_n E rfl dL_acted_213 ?_
        refine or_iload E rfl dL_acted_214 ?_
        refine or_fT3r (tL_reason (Z := Z)  h_x h_m hI hy) E G F lk_120_125 dL_acted_216 (by decide) (by decide) ⟨(Nat.le_of_ble_eq_true rfl), (Nat.le_of_ble_eq_true rfl)⟩ (Nat.le_of_ble_eq_true rfl) (fun _ => ?_) (fun h => absurd h (Nat.lt_irrefl 0))
        refine or_istore E dL_acted_219 (by decide) ?_
        refine or_aload_n E rfl dL_acted_221 ?_
        refine or_fV0r (cA_nextBid (Z := Z)  h_x hI.1.1) E G F lk_120_133 dL_acted_222 h_x.1 rfl rfl (by decide) (by decide) ⟨(Nat.le_of_ble_eq_true rfl), (Nat.le_of_ble_eq_true rfl)⟩ (Nat.le_of_ble_eq_true rfl) (fun _ => ?_) (fun h => absurd h (Nat.lt_irrefl 0))
        refine or_istore E dL_acted_225 (by decide) ?_
        refine or_aload_n E rfl dL_acted_227 ?_
        refine or_iload E rfl dL_acted_228 ?_
        refine or_fV1r (cA_nods (Z := Z)  h_x hI.1.1 hy) E G F lk_120_193 dL_acted_230 h_x.1 rfl rfl (by decide) (by decide) ⟨(Nat.le_of_ble_eq_true rfl), (Nat.le_of_ble_eq_true rfl)⟩ (Nat.le_of_ble_eq_true rfl) (fun _ => ?_) (fun h => absurd h (Nat.lt_irrefl 0))
        refine or_istore E dL_acted_233 (by decide) ?_
        refine or_aload_n E rfl dL_acted_235 ?_
        refine or_iload E rfl dL_acted_236 ?_
        refine or_fV1r (cA_whyNotNod (Z := Z)  h_x hI.1 hy) E G F lk_120_196 dL_acted_238 h_x.1 rfl rfl (by decide) (by decide) ⟨(Nat.le_of_ble_eq_true rfl), (Nat.le_of_ble_eq_true rfl)⟩ (Nat.le_of_ble_eq_true rfl) (fun _ => ?_) (fun h => absurd h (Nat.lt_irrefl 0))
        refine or_iload E rfl dL_acted_241 ?_
        refine or_icmp_eq 248 E dL_acted_243 rfl (fun q243 => ?_) (fun q243 => ?_)
        · replace hk := ite_p (P := fun r : Bool × ow_I => ∀ z_ : Nat, z ≤ z_ → K 0 (some (.int (bi ((r).1)))) (S, (r).2, V, z_)) q243 hk
          refine or_iload E rfl dL_acted_248 ?_
          refine or_if_le 281 E dL_acted_250 rfl (fun q250 => ?_) (fun q250 => ?_)
          · replace hk := ite_p (P := fun r : Bool × ow_I => ∀ z_ : Nat, z ≤ z_ → K 0 (some (.int (bi ((r).1)))) (S, (r).2, V, z_)) q250 hk
            refine or_aload_n E rfl dL_acted_281 ?_
            refine or_iload E rfl dL_acted_282 ?_
            refine oy_S [.ref x, .int (nI (w (g + 1) (tn (A_buyerCount x I))))] (tL_nod (Z := Z) h_x hI.1 hy) E G lh_120_199 dL_acted_284 rfl (by decide) (by decide) ⟨by omega, by omega⟩ (Nat.le_of_ble_eq_true rfl) (fun r h1 q => ?_)
            obtain ⟨rfl, z4, hz4, rfl⟩ := q
            obtain ⟨r4, hr4⟩ : ∃ y_ : Int32 × ow_I, y_ = L_nod x (nI (w (g + 1) (tn (A_buyerCount x I)))) I := ⟨_, rfl⟩
            replace hk := lt_k (P := fun r : Bool × ow_I => ∀ z_ : Nat, z ≤ z_ → K 0 (some (.int (bi ((r).1)))) (S, (r).2, V, z_)) hr4 hk
            refine or_nmJ hr4 ?_
            refine or_iload E rfl dL_acted_287 ?_
            refine or_icmp_ne 334 E dL_acted_289 rfl (fun q289 => ?_) (fun q289 => ?_)
            · replace hk := ite_n (P := fun r : Bool × ow_I => ∀ z_ : Nat, z ≤ z_ → K 0 (some (.int (bi ((r).1)))) (S, (r).2, V, z_)) q289 hk
              refine or_iconst (v := nI 0) E rfl dL_acted_334 ?_
              try dsimp only at hk
              exact or_xr E F (fun X' E' F' => or_zret E' F' dL_acted_335 (Nat.le_of_ble_eq_true rfl) (Nat.le_of_ble_eq_true rfl) (bi_nar false) (hk _ (Nat.le_trans (Nat.le_refl _) hz4)))
            · replace hk := ite_p (P := fun r : Bool × ow_I => ∀ z_ : Nat, z ≤ z_ → K 0 (some (.int (bi ((r).1)))) (S, (r).2, V, z_)) q289 hk
              refine or_aload_n E rfl dL_acted_292 ?_
              refine or_fV0r (cA_leader (Z := Z)  h_x ) E G F lk_120_106 dL_acted_293 h_x.1 rfl rfl (by decide) (by decide) ⟨(Nat.le_of_ble_eq_true rfl), (Nat.le_of_ble_eq_true rfl)⟩ (Nat.le_of_ble_eq_true rfl) (fun _ => ?_) (fun h => absurd h (Nat.lt_irrefl 0))
              refine or_iload E rfl dL_acted_296 ?_
              refine or_icmp_ne 334 E dL_acted_298 rfl (fun q298 => ?_) (fun q298 => ?_)
              · replace hk := ite_n (P := fun r : Bool × ow_I => ∀ z_ : Nat, z ≤ z_ → K 0 (some (.int (bi ((r).1)))) (S, (r).2, V, z_)) q298 hk
                refine or_iconst (v := nI 0) E rfl dL_acted_334 ?_
                try dsimp only at hk
                exact or_xr E F (fun X' E' F' => or_zret E' F' dL_acted_335 (Nat.le_of_ble_eq_true rfl) (Nat.le_of_ble_eq_true rfl) (bi_nar false) (hk _ (Nat.le_trans (Nat.le_refl _) hz4)))
              · replace hk := ite_p (P := fun r : Bool × ow_I => ∀ z_ : Nat, z ≤ z_ → K 0 (some (.int (bi ((r).1)))) (S, (r).2, V, z_)) q298 hk
                refine or_aload_n E rfl dL_acted_301 ?_
                refine or_fV0r (cA_bid (Z := Z)  h_x ) E G F lk_120_112 dL_acted_302 h_x.1 rfl rfl (by decide) (by decide) ⟨(Nat.le_of_ble_eq_true rfl), (Nat.le_of_ble_eq_true rfl)⟩ (Nat.le_of_ble_eq_true rfl) (fun _ => ?_) (fun h => absurd h (Nat.lt_irrefl 0))
                refine or_iload E rfl dL_acted_305 ?_
                refine or_icmp_ne 334 E dL_acted_307 rfl (fun q307 => ?_) (fun q307 => ?_)
                · replace hk := ite_n (P := fun r : Bool × ow_I => ∀ z_ : Nat, z ≤ z_ → K 0 (some (.int (bi ((r).1)))) (S, (r).2, V, z_)) q307 hk
                  refine or_iconst (v := nI 0) E rfl dL_acted_334 ?_
                  try dsimp only at hk
                  exact or_xr E F (fun X' E' F' => or_zret E' F' dL_acted_335 (Nat.le_of_ble_eq_true rfl) (Nat.le_of_ble_eq_true rfl) (bi_nar false) (hk _ (Nat.le_trans (Nat.le_refl _) hz4)))
                · replace hk := ite_p (P := fun r : Bool × ow_I => ∀ z_ : Nat, z ≤ z_ → K 0 (some (.int (bi ((r).1)))) (S, (r).2, V, z_)) q307 hk
                  refine or_aload_n E rfl dL_acted_310 ?_
                  refine or_fV0r (cA_quiet (Z := Z)  h_x ) E G F lk_120_136 dL_acted_311 h_x.1 rfl rfl (by decide) (by decide) ⟨(Nat.le_of_ble_eq_true rfl), (Nat.le_of_ble_eq_true rfl)⟩ (Nat.le_of_ble_eq_true rfl) (fun _ => ?_) (fun h => absurd h (Nat.lt_irrefl 0))
                  refine or_if_ne 334 E dL_acted_314 rfl (fun q314 => ?_) (fun q314 => ?_)
                  · replace hk := ite_n (P := fun r : Bool × ow_I => ∀ z_ : Nat, z ≤ z_ → K 0 (some (.int (bi ((r).1)))) (S, (r).2, V, z_)) q314 hk
                    refine or_iconst (v := nI 0) E rfl dL_acted_334 ?_
                    try dsimp only at hk
                    exact or_xr E F (fun X' E' F' => or_zret E' F' dL_acted_335 (Nat.le_of_ble_eq_true rfl) (Nat.le_of_ble_eq_true rfl) (bi_nar false) (hk _ (Nat.le_trans (Nat.le_refl _) hz4)))
                  · replace hk := ite_p (P := fun r : Bool × ow_I => ∀ z_ : Nat, z ≤ z_ → K 0 (some (.int (bi ((r).1)))) (S, (r).2, V, z_)) q314 hk
                    refine or_aload_n E rfl dL_acted_317 ?_
                    refine or_iload E rfl dL_acted_318 ?_
                    refine or_fV1r (cA_nods (Z := Z)  h_x (by subst hr4; exact (hN _ hy).1.1) (by subst hr4; exact (vy_2 (hN _ hy).2 hy))) E G F lk_120_193 dL_acted_320 h_x.1 rfl rfl (by decide) (by decide) ⟨(Nat.le_of_ble_eq_true rfl), (Nat.le_of_ble_eq_true rfl)⟩ (Nat.le_of_ble_eq_true rfl) (fun _ => ?_) (fun h => absurd h (Nat.lt_irrefl 0))
                    refine or_iload E rfl dL_acted_323 ?_
                    refine or_iconst (v := nI 1) E rfl dL_acted_325 ?_
                    refine or_iadd E dL_acted_326 ?_
                    refine or_icmp_ne 334 E dL_acted_327 rfl (fun q327 => ?_) (fun q327 => ?_)
                    · replace hk := ite_n (P := fun r : Bool × ow_I => ∀ z_ : Nat, z ≤ z_ → K 0 (some (.int (bi ((r).1)))) (S, (r).2, V, z_)) q327 hk
                      refine or_iconst (v := nI 0) E rfl dL_acted_334 ?_
                      try dsimp only at hk
                      exact or_xr E F (fun X' E' F' => or_zret E' F' dL_acted_335 (Nat.le_of_ble_eq_true rfl) (Nat.le_of_ble_eq_true rfl) (bi_nar false) (hk _ (Nat.le_trans (Nat.le_refl _) hz4)))
                    · replace hk := ite_p (P := fun r : Bool × ow_I => ∀ z_ : Nat, z ≤ z_ → K 0 (some (.int (bi ((r).1)))) (S, (r).2, V, z_)) q327 hk
                      refine or_iconst (v := nI 1) E rfl dL_acted_330 ?_
                      refine or_goto 335 E dL_acted_331 rfl ?_
                      try dsimp only at hk
                      exact or_xr E F (fun X' E' F' => or_zret E' F' dL_acted_335 (Nat.le_of_ble_eq_true rfl) (Nat.le_of_ble_eq_true rfl) (bi_nar true) (hk _ (Nat.le_trans (Nat.le_refl _) hz4)))
          · replace hk := ite_n (P := fun r : Bool × ow_I => ∀ z_ : Nat, z ≤ z_ → K 0 (some (.int (bi ((r).1)))) (S, (r).2, V, z_)) q250 hk
            refine or_aload_n E rfl dL_acted_253 ?_
            refine or_iload E rfl dL_acted_254 ?_
            refine oy_S [.ref x, .int (nI (w (g + 1) (tn (A_buyerCount x I))))] (tL_nod (Z := Z) h_x hI.1 hy) E G lh_120_199 dL_acted_256 rfl (by decide) (by decide) ⟨by omega, by omega⟩ (Nat.le_of_ble_eq_true rfl) (fun r h1 q => ?_)
            obtain ⟨rfl, z5, hz5, rfl⟩ := q
            obtain ⟨r5, hr5⟩ : ∃ y_ : Int32 × ow_I, y_ = L_nod x (nI (w (g + 1) (tn (A_buyerCount x I)))) I := ⟨_, rfl⟩
            replace hk := lt_k (P := fun r : Bool × ow_I => ∀ z_ : Nat, z ≤ z_ → K 0 (some (.int (bi ((r).1)))) (S, (r).2, V, z_)) hr5 hk
            refine or_nmJ hr5 ?_
            refine or_bipush (v := -100) E rfl dL_acted_259 ?_
            refine or_icmp_ne 279 E dL_acted_261 rfl (fun q261 => ?_) (fun q261 => ?_)
            · replace hk := ite_n (P := fun r : Bool × ow_I => ∀ z_ : Nat, z ≤ z_ → K 0 (some (.int (bi ((r).1)))) (S, (r).2, V, z_)) q261 hk
              refine or_iconst (v := nI 0) E rfl dL_acted_279 ?_
              try dsimp only at hk
              exact or_xr E F (fun X' E' F' => or_zret E' F' dL_acted_280 (Nat.le_of_ble_eq_true rfl) (Nat.le_of_ble_eq_true rfl) (bi_nar false) (hk _ (Nat.le_trans (Nat.le_refl _) hz5)))
            · replace hk := ite_p (P := fun r : Bool × ow_I => ∀ z_ : Nat, z ≤ z_ → K 0 (some (.int (bi ((r).1)))) (S, (r).2, V, z_)) q261 hk
              refine or_aload_n E rfl dL_acted_264 ?_
              refine or_iload E rfl dL_acted_265 ?_
              refine or_fV1r (cA_nods (Z := Z)  h_x (by subst hr5; exact (hN _ hy).1.1) (by subst hr5; exact (vy_2 (hN _ hy).2 hy))) E G F lk_120_193 dL_acted_267 h_x.1 rfl rfl (by decide) (by decide) ⟨(Nat.le_of_ble_eq_true rfl), (Nat.le_of_ble_eq_true rfl)⟩ (Nat.le_of_ble_eq_true rfl) (fun _ => ?_) (fun h => absurd h (Nat.lt_irrefl 0))
              refine or_iload E rfl dL_acted_270 ?_
              refine or_icmp_ne 279 E dL_acted_272 rfl (fun q272 => ?_) (fun q272 => ?_)
              · replace hk := ite_n (P := fun r : Bool × ow_I => ∀ z_ : Nat, z ≤ z_ → K 0 (some (.int (bi ((r).1)))) (S, (r).2, V, z_)) q272 hk
                refine or_iconst (v := nI 0) E rfl dL_acted_279 ?_
                try dsimp only at hk
                exact or_xr E F (fun X' E' F' => or_zret E' F' dL_acted_280 (Nat.le_of_ble_eq_true rfl) (Nat.le_of_ble_eq_true rfl) (bi_nar false) (hk _ (Nat.le_trans (Nat.le_refl _) hz5)))
              · replace hk := ite_p (P := fun r : Bool × ow_I => ∀ z_ : Nat, z ≤ z_ → K 0 (some (.int (bi ((r).1)))) (S, (r).2, V, z_)) q272 hk
                refine or_iconst (v := nI 1) E rfl dL_acted_275 ?_
                refine or_goto 280 E dL_acted_276 rfl ?_
                try dsimp only at hk
                exact or_xr E F (fun X' E' F' => or_zret E' F' dL_acted_280 (Nat.le_of_ble_eq_true rfl) (Nat.le_of_ble_eq_true rfl) (bi_nar true) (hk _ (Nat.le_trans (Nat.le_refl _) hz5)))
        · replace hk := ite_n (P := fun r : Bool × ow_I => ∀ z_ : Nat, z ≤ z_ → K 0 (some (.int (bi ((r).1)))) (S, (r).2, V, z_)) q243 hk
          refine or_iconst (v := nI 0) E rfl dL_acted_246 ?_
          try dsimp only at hk
          exact or_xr E F (fun X' E' F' => or_zret E' F' dL_acted_247 (Nat.le_of_ble_eq_true rfl) (Nat.le_of_ble_eq_true rfl) (bi_nar false) (hk _ (Nat.le_refl _)))
      · replace hk := ite_n (P := fun r : Bool × ow_I => ∀ z_ : Nat, z ≤ z_ → K 0 (some (.int (bi ((r).1)))) (S, (r).2, V, z_)) q172_0 hk; replace hk := ite_n (P := fun r : Bool × ow_I => ∀ z_ : Nat, z ≤ z_ → K 0 (some (.int (bi ((r).1)))) (S, (r).2, V, z_)) q172_1 hk; replace hk := ite_p (P := fun r : Bool × ow_I => ∀ z_ : Nat, z ≤ z_ → K 0 (some (.int (bi ((r).1)))) (S, (r).2, V, z_)) q172_2 hk
        refine or_aload_n E rfl dL_acted_336 ?_
        refine or_iload E rfl dL_acted_337 ?_
        refine or_iconst (v := nI 1) E rfl dL_acted_339 ?_
        refine or_aload_n E rfl dL_acted_340 ?_
        refine or_iload_n E rfl dL_acted_341 ?_
        refine or_iconst (v := nI 1) E rfl dL_acted_342 ?_
        refine or_iaddN E dL_acted_343 ?_
        refine or_bipush (v := nI 8) E rfl dL_acted_344 ?_
        refine or_fT3r (tL_pick (Z := Z) (k := g + 1) (n := 8) (by omega) (by omega) (by omega)) E G F lk_120_27 dL_acted_346 (by decide) (by decide) ⟨by omega, by omega⟩ (Nat.le_of_ble_eq_true rfl) (fun _ => ?_) (fun h => absurd h (Nat.lt_irrefl 0))
        refine or_top (y := nI (w (g + 1) 8)) (by rw [hw]) ?_
        refine or_iaddN E dL_acted_349 ?_
        refine or_kT3 (tL_cut (Z := Z) h_x hI.1 (hc19 (hc48 hb48v)) ⟨(nI_rg (by omega) (by omega)),(nI_rg (by omega) (by omega))⟩ (hC _ _ (hc19 (hc48 hb48v)) ⟨(nI_rg (by omega) (by omega)),(nI_rg (by omega) (by omega))⟩)) E G F lk_120_202 dL_acted_350 (by decide) (by decide) ⟨by omega, by omega⟩ (Nat.le_of_ble_eq_true rfl) (fun r h1 q => ?_) (fun c' h1 hc' q => absurd q.1 (Nat.pos_iff_ne_zero.mp hc'))
        obtain ⟨-, rfl, z6, hz6, rfl⟩ := q
        obtain ⟨r6, hr6⟩ : ∃ y_ : Bool × ow_I, y_ = L_cut x b19 (nI (1 + (w (g + 1) 8))) I := ⟨_, rfl⟩
        replace hk := lt_k (P := fun r : Bool × ow_I => ∀ z_ : Nat, z ≤ z_ → K 0 (some (.int (bi ((r).1)))) (S, (r).2, V, z_)) hr6 hk
        refine or_nmZ hr6 ?_
        try dsimp only at hk
        exact or_xr E F (fun X' E' F' => or_zret E' F' dL_acted_353 (Nat.le_of_ble_eq_true rfl) (Nat.le_of_ble_eq_true rfl) (bi_nar _) (hk _ (Nat.le_trans (Nat.le_refl _) hz6)))
      · replace hk := ite_n (P := fun r : Bool × ow_I => ∀ z_ : Nat, z ≤ z_ → K 0 (some (.int (bi ((r).1)))) (S, (r).2, V, z_)) q172_0 hk; replace hk := ite_n (P := fun r : Bool × ow_I => ∀ z_ : Nat, z ≤ z_ → K 0 (some (.int (bi ((r).1)))) (S, (r).2, V, z_)) q172_1 hk; replace hk := ite_n (P := fun r : Bool × ow_I => ∀ z_ : Nat, z ≤ z_ → K 0 (some (.int (bi ((r).1)))) (S, (r).2, V, z_)) q172_2 hk; replace hk := ite_p (P := fun r : Bool × ow_I => ∀ z_ : Nat, z ≤ z_ → K 0 (some (.int (bi ((r).1)))) (S, (r).2, V, z_)) q172_3 hk
        refine or_aload_n E rfl dL_acted_354 ?_
        refine or_iload E rfl dL_acted_355 ?_
        refine or_fV1r (cA_stateOf (Z := Z)  h_x hI.1.1 (hc19 (hc48 hb48v))) E G F lk_120_157 dL_acted_357 h_x.1 rfl rfl (by decide) (by decide) ⟨(Nat.le_of_ble_eq_true rfl), (Nat.le_of_ble_eq_true rfl)⟩ (Nat.le_of_ble_eq_true rfl) (fun _ => ?_) (fun h => absurd h (Nat.lt_irrefl 0))
        refine or_if_ne 367 E dL_acted_360 rfl (fun q360 => ?_) (fun q360 => ?_)
        · replace hk := ite_n (P := fun r : Bool × ow_I => ∀ z_ : Nat, z ≤ z_ → K 0 (some (.int (bi ((r).1)))) (S, (r).2, V, z_)) q360 hk
          refine or_iconst (v := nI 0) E rfl dL_acted_367 ?_
          refine or_istore E dL_acted_368 (by decide) ?_
          refine or_aload_n E rfl dL_acted_370 ?_
          refine or_fV0r (cA_queueLength (Z := Z)  h_x ) E G F lk_120_66 dL_acted_371 h_x.1 rfl rfl (by decide) (by decide) ⟨(Nat.le_of_ble_eq_true rfl), (Nat.le_of_ble_eq_true rfl)⟩ (Nat.le_of_ble_eq_true rfl) (fun _ => ?_) (fun h => absurd h (Nat.lt_irrefl 0))
          refine or_istore E dL_acted_374 (by decide) ?_
          refine or_aload_n E rfl dL_acted_376 ?_
          refine or_iload E rfl dL_acted_377 ?_
          refine oy_S [.ref x, .int b19] (tL_withdraw (Z := Z) h_x hI.1 (hc19 (hc48 hb48v))) E G lh_120_206 dL_acted_379 rfl (by decide) (by decide) ⟨by omega, by omega⟩ (Nat.le_of_ble_eq_true rfl) (fun r h1 q => ?_)
          obtain ⟨rfl, z7, hz7, rfl⟩ := q
          obtain ⟨r7, hr7⟩ : ∃ y_ : Int32 × ow_I, y_ = L_withdraw x b19 I := ⟨_, rfl⟩
          replace hk := lt_k (P := fun r : Bool × ow_I => ∀ z_ : Nat, z ≤ z_ → K 0 (some (.int (bi ((r).1)))) (S, (r).2, V, z_)) hr7 hk
          refine or_nmJ hr7 ?_
          refine or_iload E rfl dL_acted_382 ?_
          refine or_if_eqN 394 E dL_acted_384 rfl (by omega) (fun q384 => ?_) (fun q384 => absurd q384 (by decide))
          refine or_bipush (v := -100) E rfl dL_acted_394 ?_
          refine or_icmp_ne 418 E dL_acted_396 rfl (fun q396 => ?_) (fun q396 => ?_)
          · replace hk := ite_n (P := fun r : Bool × ow_I => ∀ z_ : Nat, z ≤ z_ → K 0 (some (.int (bi ((r).1)))) (S, (r).2, V, z_)) q396 hk
            refine or_iconst (v := nI 0) E rfl dL_acted_418 ?_
            try dsimp only at hk
            exact or_xr E F (fun X' E' F' => or_zret E' F' dL_acted_419 (Nat.le_of_ble_eq_true rfl) (Nat.le_of_ble_eq_true rfl) (bi_nar false) (hk _ (Nat.le_trans (Nat.le_refl _) hz7)))
          · replace hk := ite_p (P := fun r : Bool × ow_I => ∀ z_ : Nat, z ≤ z_ → K 0 (some (.int (bi ((r).1)))) (S, (r).2, V, z_)) q396 hk
            refine or_iload E rfl dL_acted_399 ?_
            refine or_if_eqN 414 E dL_acted_401 rfl (by omega) (fun q401 => ?_) (fun q401 => absurd q401 (by decide))
            refine or_iconst (v := nI 1) E rfl dL_acted_414 ?_
            refine or_goto 419 E dL_acted_415 rfl ?_
            try dsimp only at hk
            exact or_xr E F (fun X' E' F' => or_zret E' F' dL_acted_419 (Nat.le_of_ble_eq_true rfl) (Nat.le_of_ble_eq_true rfl) (bi_nar true) (hk _ (Nat.le_trans (Nat.le_refl _) hz7)))
        · replace hk := ite_p (P := fun r : Bool × ow_I => ∀ z_ : Nat, z ≤ z_ → K 0 (some (.int (bi ((r).1)))) (S, (r).2, V, z_)) q360 hk
          refine or_iconst (v := nI 1) E rfl dL_acted_363 ?_
          refine or_goto 368 E dL_acted_364 rfl ?_
          refine or_istore E dL_acted_368 (by decide) ?_
          refine or_aload_n E rfl dL_acted_370 ?_
          refine or_fV0r (cA_queueLength (Z := Z)  h_x ) E G F lk_120_66 dL_acted_371 h_x.1 rfl rfl (by decide) (by decide) ⟨(Nat.le_of_ble_eq_true rfl), (Nat.le_of_ble_eq_true rfl)⟩ (Nat.le_of_ble_eq_true rfl) (fun _ => ?_) (fun h => absurd h (Nat.lt_irrefl 0))
          refine or_istore E dL_acted_374 (by decide) ?_
          refine or_aload_n E rfl dL_acted_376 ?_
          refine or_iload E rfl dL_acted_377 ?_
          refine oy_S [.ref x, .int b19] (tL_withdraw (Z := Z) h_x hI.1 (hc19 (hc48 hb48v))) E G lh_120_206 dL_acted_379 rfl (by decide) (by decide) ⟨by omega, by omega⟩ (Nat.le_of_ble_eq_true rfl) (fun r h1 q => ?_)
          obtain ⟨rfl, z8, hz8, rfl⟩ := q
          obtain ⟨r8, hr8⟩ : ∃ y_ : Int32 × ow_I, y_ = L_withdraw x b19 I := ⟨_, rfl⟩
          replace hk := lt_k (P := fun r : Bool × ow_I => ∀ z_ : Nat, z ≤ z_ → K 0 (some (.int (bi ((r).1)))) (S, (r).2, V, z_)) hr8 hk
          refine or_nmJ hr8 ?_
          refine or_iload E rfl dL_acted_382 ?_
          refine or_if_eqN 394 E dL_acted_384 rfl (by omega) (fun q384 => absurd q384 (by decide)) (fun q384 => ?_)
          refine or_iload E rfl dL_acted_387 ?_
          refine or_iconst (v := nI 1) E rfl dL_acted_389 ?_
          refine or_isub E dL_acted_390 ?_
          refine or_goto 396 E dL_acted_391 rfl ?_
          refine or_icmp_ne 418 E dL_acted_396 rfl (fun q396 => ?_) (fun q396 => ?_)
          · replace hk := ite_n (P := fun r : Bool × ow_I => ∀ z_ : Nat, z ≤ z_ → K 0 (some (.int (bi ((r).1)))) (S, (r).2, V, z_)) q396 hk
            refine or_iconst (v := nI 0) E rfl dL_acted_418 ?_
            try dsimp only at hk
            exact or_xr E F (fun X' E' F' => or_zret E' F' dL_acted_419 (Nat.le_of_ble_eq_true rfl) (Nat.le_of_ble_eq_true rfl) (bi_nar false) (hk _ (Nat.le_trans (Nat.le_refl _) hz8)))
          · replace hk := ite_p (P := fun r : Bool × ow_I => ∀ z_ : Nat, z ≤ z_ → K 0 (some (.int (bi ((r).1)))) (S, (r).2, V, z_)) q396 hk
            refine or_iload E rfl dL_acted_399 ?_
            refine or_if_eqN 414 E dL_acted_401 rfl (by omega) (fun q401 => absurd q401 (by decide)) (fun q401 => ?_)
            refine or_aload_n E rfl dL_acted_404 ?_
            refine or_iload E rfl dL_acted_405 ?_
            refine or_fV1r (cA_stateOf (Z := Z)  h_x (by subst hr8; exact (hW _ (hc19 (hc48 hb48v))).1.1) (by subst hr8; exact (vy_2 (hW _ (hc19 (hc48 hb48v))).2 (hc19 (hc48 hb48v))))) E G F lk_120_157 dL_acted_407 h_x.1 rfl rfl (by decide) (by decide) ⟨(Nat.le_of_ble_eq_true rfl), (Nat.le_of_ble_eq_true rfl)⟩ (Nat.le_of_ble_eq_true rfl) (fun _ => ?_) (fun h => absurd h (Nat.lt_irrefl 0))
            refine or_iconst (v := nI 3) E rfl dL_acted_410 ?_
            refine or_icmp_ne 418 E dL_acted_411 rfl (fun q411 => ?_) (fun q411 => ?_)
            · replace hk := ite_n (P := fun r : Bool × ow_I => ∀ z_ : Nat, z ≤ z_ → K 0 (some (.int (bi ((r).1)))) (S, (r).2, V, z_)) q411 hk
              refine or_iconst (v := nI 0) E rfl dL_acted_418 ?_
              try dsimp only at hk
              exact or_xr E F (fun X' E' F' => or_zret E' F' dL_acted_419 (Nat.le_of_ble_eq_true rfl) (Nat.le_of_ble_eq_true rfl) (bi_nar false) (hk _ (Nat.le_trans (Nat.le_refl _) hz8)))
            · replace hk := ite_p (P := fun r : Bool × ow_I => ∀ z_ : Nat, z ≤ z_ → K 0 (some (.int (bi ((r).1)))) (S, (r).2, V, z_)) q411 hk
              refine or_iconst (v := nI 1) E rfl dL_acted_414 ?_
              refine or_goto 419 E dL_acted_415 rfl ?_
              try dsimp only at hk
              exact or_xr E F (fun X' E' F' => or_zret E' F' dL_acted_419 (Nat.le_of_ble_eq_true rfl) (Nat.le_of_ble_eq_true rfl) (bi_nar true) (hk _ (Nat.le_trans (Nat.le_refl _) hz8)))
      · replace hk := ite_n (P := fun r : Bool × ow_I => ∀ z_ : Nat, z ≤ z_ → K 0 (some (.int (bi ((r).1)))) (S, (r).2, V, z_)) q172_0 hk; replace hk := ite_n (P := fun r : Bool × ow_I => ∀ z_ : Nat, z ≤ z_ → K 0 (some (.int (bi ((r).1)))) (S, (r).2, V, z_)) q172_1 hk; replace hk := ite_n (P := fun r : Bool × ow_I => ∀ z_ : Nat, z ≤ z_ → K 0 (some (.int (bi ((r).1)))) (S, (r).2, V, z_)) q172_2 hk; replace hk := ite_n (P := fun r : Bool × ow_I => ∀ z_ : Nat, z ≤ z_ → K 0 (some (.int (bi ((r).1)))) (S, (r).2, V, z_)) q172_3 hk; replace hk := ite_p (P := fun r : Bool × ow_I => ∀ z_ : Nat, z ≤ z_ → K 0 (some (.int (bi ((r).1)))) (S, (r).2, V, z_)) q172_4 hk
        refine or_aload_n E rfl dL_acted_420 ?_
        refine or_iload E rfl dL_acted_421 ?_
        refine or_fV1r (cA_purse (Z := Z)  h_x hI.1.1 hy) E G F lk_120_118 dL_acted_423 h_x.1 rfl rfl (by decide) (by decide) ⟨(Nat.le_of_ble_eq_true rfl), (Nat.le_of_ble_eq_true rfl)⟩ (Nat.le_of_ble_eq_true rfl) (fun _ => ?_) (fun h => absurd h (Nat.lt_irrefl 0))
        refine or_istore E dL_acted_426 (by decide) ?_
        refine or_iconst (v := nI 1) E rfl dL_acted_428 ?_
        refine or_aload_n E rfl dL_acted_429 ?_
        refine or_iload_n E rfl dL_acted_430 ?_
        refine or_iconst (v := nI 2) E rfl dL_acted_431 ?_
        refine or_iaddN E dL_acted_432 ?_
        refine or_sipush (v := nI 300) E rfl dL_acted_433 ?_
        refine or_fT3r (tL_pick (Z := Z) (k := g + 2) (n := 300) (by omega) (by omega) (by omega)) E G F lk_120_27 dL_acted_436 (by decide) (by decide) ⟨by omega, by omega⟩ (Nat.le_of_ble_eq_true rfl) (fun _ => ?_) (fun h => absurd h (Nat.lt_irrefl 0))
        refine or_top (y := nI (w (g + 2) 300)) (by rw [hw]) ?_
        refine or_iaddN E dL_acted_439 ?_
        refine or_istore E dL_acted_440 (by decide) ?_
        refine or_aload_n E rfl dL_acted_442 ?_
        refine or_iload E rfl dL_acted_443 ?_
        refine or_iload E rfl dL_acted_445 ?_
        refine or_fV2r (cA_fund (Z := Z)  h_x hI.1 hy (nI_rg (by omega) (by omega)) (nI_rg (by omega) (by omega))) E G F lk_120_208 dL_acted_447 h_x.1 rfl rfl (by decide) (by decide) ⟨(Nat.le_of_ble_eq_true rfl), (Nat.le_of_ble_eq_true rfl)⟩ (Nat.le_of_ble_eq_true rfl) (fun _ => ?_) (fun h => absurd h (Nat.lt_irrefl 0))
        obtain ⟨r9, hr9⟩ : ∃ y_ : Int32 × ow_I, y_ = A_fund x (nI (w (g + 1) (tn (A_buyerCount x I)))) (nI (1 + (w (g + 2) 300))) I := ⟨_, rfl⟩
        replace hk := lt_k (P := fun r : Bool × ow_I => ∀ z_ : Nat, z ≤ z_ → K 0 (some (.int (bi ((r).1)))) (S, (r).2, V, z_)) hr9 hk
        refine or_nmJ hr9 ?_
        refine or_iload E rfl dL_acted_450 ?_
        refine or_iload E rfl dL_acted_452 ?_
        refine or_iadd E dL_acted_454 ?_
        refine or_icmp_ne 469 E dL_acted_455 rfl (fun q455 => ?_) (fun q455 => ?_)
        · replace hk := ite_n (P := fun r : Bool × ow_I => ∀ z_ : Nat, z ≤ z_ → K 0 (some (.int (bi ((r).1)))) (S, (r).2, V, z_)) q455 hk
          refine or_iconst (v := nI 0) E rfl dL_acted_469 ?_
          try dsimp only at hk
          exact or_xr E F (fun X' E' F' => or_zret E' F' dL_acted_470 (Nat.le_of_ble_eq_true rfl) (Nat.le_of_ble_eq_true rfl) (bi_nar false) (hk _ (Nat.le_refl _)))
        · replace hk := ite_p (P := fun r : Bool × ow_I => ∀ z_ : Nat, z ≤ z_ → K 0 (some (.int (bi ((r).1)))) (S, (r).2, V, z_)) q455 hk
          refine or_aload_n E rfl dL_acted_458 ?_
          refine or_fV0r (cA_coinError (Z := Z)  h_x (by subst hr9; exact (hF _ _ hy (by omega) (by omega)))) E G F lk_120_211 dL_acted_459 h_x.1 rfl rfl (by decide) (by decide) ⟨(Nat.le_of_ble_eq_true rfl), (Nat.le_of_ble_eq_true rfl)⟩ (Nat.le_of_ble_eq_true rfl) (fun _ => ?_) (fun h => absurd h (Nat.lt_irrefl 0))
          refine or_if_ne 469 E dL_acted_462 rfl (fun q462 => ?_) (fun q462 => ?_)
          · replace hk := ite_n (P := fun r : Bool × ow_I => ∀ z_ : Nat, z ≤ z_ → K 0 (some (.int (bi ((r).1)))) (S, (r).2, V, z_)) q462 hk
            refine or_iconst (v := nI 0) E rfl dL_acted_469 ?_
            try dsimp only at hk
            exact or_xr E F (fun X' E' F' => or_zret E' F' dL_acted_470 (Nat.le_of_ble_eq_true rfl) (Nat.le_of_ble_eq_true rfl) (bi_nar false) (hk _ (Nat.le_refl _)))
          · replace hk := ite_p (P := fun r : Bool × ow_I => ∀ z_ : Nat, z ≤ z_ → K 0 (some (.int (bi ((r).1)))) (S, (r).2, V, z_)) q462 hk
            refine or_iconst (v := nI 1) E rfl dL_acted_465 ?_
            refine or_goto 470 E dL_acted_466 rfl ?_
            try dsimp only at hk
            exact or_xr E F (fun X' E' F' => or_zret E' F' dL_acted_470 (Nat.le_of_ble_eq_true rfl) (Nat.le_of_ble_eq_true rfl) (bi_nar true) (hk _ (Nat.le_refl _)))
      · replace hk := ite_n (P := fun r : Bool × ow_I => ∀ z_ : Nat, z ≤ z_ → K 0 (some (.int (bi ((r).1)))) (S, (r).2, V, z_)) q172_0 hk; replace hk := ite_n (P := fun r : Bool × ow_I => ∀ z_ : Nat, z ≤ z_ → K 0 (some (.int (bi ((r).1)))) (S, (r).2, V, z_)) q172_1 hk; replace hk := ite_n (P := fun r : Bool × ow_I => ∀ z_ : Nat, z ≤ z_ → K 0 (some (.int (bi ((r).1)))) (S, (r).2, V, z_)) q172_2 hk; replace hk := ite_n (P := fun r : Bool × ow_I => ∀ z_ : Nat, z ≤ z_ → K 0 (some (.int (bi ((r).1)))) (S, (r).2, V, z_)) q172_3 hk; replace hk := ite_n (P := fun r : Bool × ow_I => ∀ z_ : Nat, z ≤ z_ → K 0 (some (.int (bi ((r).1)))) (S, (r).2, V, z_)) q172_4 hk; replace hk := ite_p (P := fun r : Bool × ow_I => ∀ z_ : Nat, z ≤ z_ → K 0 (some (.int (bi ((r).1)))) (S, (r).2, V, z_)) q172_5 hk
        refine or_aload_n E rfl dL_acted_471 ?_
        refine or_fV0r (cA_step (Z := Z)  h_x ) E G F lk_120_115 dL_acted_472 h_x.1 rfl rfl (by decide) (by decide) ⟨(Nat.le_of_ble_eq_true rfl), (Nat.le_of_ble_eq_true rfl)⟩ (Nat.le_of_ble_eq_true rfl) (fun _ => ?_) (fun h => absurd h (Nat.lt_irrefl 0))
        refine or_istore E dL_acted_475 (by decide) ?_
        refine or_aload_n E rfl dL_acted_477 ?_
        refine or_iload E rfl dL_acted_478 ?_
        refine or_fV1r (cA_style (Z := Z)  h_x hI.1.1 hy) E G F lk_120_93 dL_acted_480 h_x.1 rfl rfl (by decide) (by decide) ⟨(Nat.le_of_ble_eq_true rfl), (Nat.le_of_ble_eq_true rfl)⟩ (Nat.le_of_ble_eq_true rfl) (fun _ => ?_) (fun h => absurd h (Nat.lt_irrefl 0))
        refine or_istore E dL_acted_483 (by decide) ?_
        refine or_aload_n E rfl dL_acted_485 ?_
        refine or_iconst (v := nI 1) E rfl dL_acted_486 ?_
        refine or_aload_n E rfl dL_acted_487 ?_
        refine or_iload_n E rfl dL_acted_488 ?_
        refine or_iconst (v := nI 2) E rfl dL_acted_489 ?_
        refine or_iaddN E dL_acted_490 ?_
        refine or_bipush (v := nI 50) E rfl dL_acted_491 ?_
        refine or_fT3r (tL_pick (Z := Z) (k := g + 2) (n := 50) (by omega) (by omega) (by omega)) E G F lk_120_27 dL_acted_493 (by decide) (by decide) ⟨by omega, by omega⟩ (Nat.le_of_ble_eq_true rfl) (fun _ => ?_) (fun h => absurd h (Nat.lt_irrefl 0))
        refine or_top (y := nI (w (g + 2) 50)) (by rw [hw]) ?_
        refine or_iaddN E dL_acted_496 ?_
        refine or_fV1r (cA_setStep (Z := Z)  h_x hI.1 (nI_rg (by omega) (by omega)) (nI_rg (by omega) (by omega))) E G F lk_120_214 dL_acted_497 h_x.1 rfl rfl (by decide) (by decide) ⟨(Nat.le_of_ble_eq_true rfl), (Nat.le_of_ble_eq_true rfl)⟩ (Nat.le_of_ble_eq_true rfl) (fun _ => ?_) (fun h => absurd h (Nat.lt_irrefl 0))
        obtain ⟨r10, hr10⟩ : ∃ y_ : Int32 × ow_I, y_ = A_setStep x (nI (1 + (w (g + 2) 50))) I := ⟨_, rfl⟩
        replace hk := lt_k (P := fun r : Bool × ow_I => ∀ z_ : Nat, z ≤ z_ → K 0 (some (.int (bi ((r).1)))) (S, (r).2, V, z_)) hr10 hk
        refine or_nmJ hr10 ?_
        refine or_iload E rfl dL_acted_500 ?_
        refine or_icmp_ne 540 E dL_acted_502 rfl (fun q502 => ?_) (fun q502 => ?_)
        · replace hk := ite_n (P := fun r : Bool × ow_I => ∀ z_ : Nat, z ≤ z_ → K 0 (some (.int (bi ((r).1)))) (S, (r).2, V, z_)) q502 hk
          refine or_iconst (v := nI 0) E rfl dL_acted_540 ?_
          try dsimp only at hk
          exact or_xr E F (fun X' E' F' => or_zret E' F' dL_acted_541 (Nat.le_of_ble_eq_true rfl) (Nat.le_of_ble_eq_true rfl) (bi_nar false) (hk _ (Nat.le_refl _)))
        · replace hk := ite_p (P := fun r : Bool × ow_I => ∀ z_ : Nat, z ≤ z_ → K 0 (some (.int (bi ((r).1)))) (S, (r).2, V, z_)) q502 hk
          refine or_aload_n E rfl dL_acted_505 ?_
          refine or_iload E rfl dL_acted_506 ?_
          refine or_aload_n E rfl dL_acted_508 ?_
          refine or_iload_n E rfl dL_acted_509 ?_
          refine or_iconst (v := nI 1) E rfl dL_acted_510 ?_
          refine or_iaddN E dL_acted_511 ?_
          refine or_iconst (v := nI 5) E rfl dL_acted_512 ?_
          refine or_fT3r (tL_pick (Z := Z) (k := g + 1) (n := 5) (by omega) (by omega) (by omega)) E G F lk_120_27 dL_acted_513 (by decide) (by decide) ⟨by omega, by omega⟩ (Nat.le_of_ble_eq_true rfl) (fun _ => ?_) (fun h => absurd h (Nat.lt_irrefl 0))
          refine or_top (y := nI (w (g + 1) 5)) (by rw [hw]) ?_
          refine or_iconst (v := nI 1) E rfl dL_acted_516 ?_
          refine or_aload_n E rfl dL_acted_517 ?_
          refine or_iload_n E rfl dL_acted_518 ?_
          refine or_iconst (v := nI 2) E rfl dL_acted_519 ?_
          refine or_iaddN E dL_acted_520 ?_
          refine or_sipush (v := nI 200) E rfl dL_acted_521 ?_
          refine or_fT3r (tL_pick (Z := Z) (k := g + 2) (n := 200) (by omega) (by omega) (by omega)) E G F lk_120_27 dL_acted_524 (by decide) (by decide) ⟨by omega, by omega⟩ (Nat.le_of_ble_eq_true rfl) (fun _ => ?_) (fun h => absurd h (Nat.lt_irrefl 0))
          refine or_top (y := nI (w (g + 2) 200)) (by rw [hw]) ?_
          refine or_iaddN E dL_acted_527 ?_
          refine or_fV3r (cA_setTaste (Z := Z)  h_x (by subst hr10; exact (hP _ (by omega) (by omega)).1) (by subst hr10; exact (vy_2 (hP _ (by omega) (by omega)).2 hy)) (by subst hr10; exact (nI_rg (by omega) (by omega))) (by subst hr10; exact (nI_rg (by omega) (by omega))) (by subst hr10; exact (nI_rg (by omega) (by omega))) (by subst hr10; exact (nI_rg (by omega) (by omega)))) E G F lk_120_217 dL_acted_528 h_x.1 rfl rfl (by decide) (by decide) ⟨(Nat.le_of_ble_eq_true rfl), (Nat.le_of_ble_eq_true rfl)⟩ (Nat.le_of_ble_eq_true rfl) (fun _ => ?_) (fun h => absurd h (Nat.lt_irrefl 0))
          obtain ⟨r11, hr11⟩ : ∃ y_ : Int32 × ow_I, y_ = A_setTaste x (nI (w (g + 1) (tn (A_buyerCount x I)))) (nI (w (g + 1) 5)) (nI (1 + (w (g + 2) 200))) r10.2 := ⟨_, rfl⟩
          replace hk := lt_k (P := fun r : Bool × ow_I => ∀ z_ : Nat, z ≤ z_ → K 0 (some (.int (bi ((r).1)))) (S, (r).2, V, z_)) hr11 hk
          refine or_nmJ hr11 ?_
          refine or_iload E rfl dL_acted_531 ?_
          refine or_icmp_ne 540 E dL_acted_533 rfl (fun q533 => ?_) (fun q533 => ?_)
          · replace hk := ite_n (P := fun r : Bool × ow_I => ∀ z_ : Nat, z ≤ z_ → K 0 (some (.int (bi ((r).1)))) (S, (r).2, V, z_)) q533 hk
            refine or_iconst (v := nI 0) E rfl dL_acted_540 ?_
            try dsimp only at hk
            exact or_xr E F (fun X' E' F' => or_zret E' F' dL_acted_541 (Nat.le_of_ble_eq_true rfl) (Nat.le_of_ble_eq_true rfl) (bi_nar false) (hk _ (Nat.le_refl _)))
          · replace hk := ite_p (P := fun r : Bool × ow_I => ∀ z_ : Nat, z ≤ z_ → K 0 (some (.int (bi ((r).1)))) (S, (r).2, V, z_)) q533 hk
            refine or_iconst (v := nI 1) E rfl dL_acted_536 ?_
            refine or_goto 541 E dL_acted_537 rfl ?_
            try dsimp only at hk
            exact or_xr E F (fun X' E' F' => or_zret E' F' dL_acted_541 (Nat.le_of_ble_eq_true rfl) (Nat.le_of_ble_eq_true rfl) (bi_nar true) (hk _ (Nat.le_refl _)))
      · replace hk := ite_n (P := fun r : Bool × ow_I => ∀ z_ : Nat, z ≤ z_ → K 0 (some (.int (bi ((r).1)))) (S, (r).2, V, z_)) q172_0 hk; replace hk := ite_n (P := fun r : Bool × ow_I => ∀ z_ : Nat, z ≤ z_ → K 0 (some (.int (bi ((r).1)))) (S, (r).2, V, z_)) q172_1 hk; replace hk := ite_n (P := fun r : Bool × ow_I => ∀ z_ : Nat, z ≤ z_ → K 0 (some (.int (bi ((r).1)))) (S, (r).2, V, z_)) q172_2 hk; replace hk := ite_n (P := fun r : Bool × ow_I => ∀ z_ : Nat, z ≤ z_ → K 0 (some (.int (bi ((r).1)))) (S, (r).2, V, z_)) q172_3 hk; replace hk := ite_n (P := fun r : Bool × ow_I => ∀ z_ : Nat, z ≤ z_ → K 0 (some (.int (bi ((r).1)))) (S, (r).2, V, z_)) q172_4 hk; replace hk := ite_n (P := fun r : Bool × ow_I => ∀ z_ : Nat, z ≤ z_ → K 0 (some (.int (bi ((r).1)))) (S, (r).2, V, z_)) q172_5 hk
        refine or_aload_n E rfl dL_acted_542 ?_
        refine or_iload_n E rfl dL_acted_543 ?_
        refine or_iconst (v := nI 2) E rfl dL_acted_544 ?_
        refine or_iaddN E dL_acted_545 ?_
        refine or_bipush (v := nI 8) E rfl dL_acted_546 ?_
        refine or_fT3r (tL_pick (Z := Z) (k := g + 2) (n := 8) (by omega) (by omega) (by omega)) E G F lk_120_27 dL_acted_548 (by decide) (by decide) ⟨by omega, by omega⟩ (Nat.le_of_ble_eq_true rfl) (fun _ => ?_) (fun h => absurd h (Nat.lt_irrefl 0))
        refine or_top (y := nI (w (g + 2) 8)) (by rw [hw]) ?_
        refine or_istore E dL_acted_551 (by decide) ?_
        refine or_lv _ ?_ (L553 10 _ _ ⟨B, hI, (by rw [cnt_n (by omega)]; omega)⟩ (by rw [cnt_n (by omega)]; omega) hk)
        rfl
    refine or_iload E rfl dL_acted_48 ?_
    refine or_if_lt 58 E dL_acted_50 rfl (fun q50 => ?_) (fun q50 => ?_)
    · replace hb48 := ite_p (P := fun r_ : Bool => b48 = r_) q50 hb48
      exact or_lv _ rfl (J48t hb48)
    · replace hb48 := ite_n (P := fun r_ : Bool => b48 = r_) q50 hb48
      refine or_iload E rfl dL_acted_53 ?_
      refine or_if_neN 170 E dL_acted_55 rfl (by omega) (fun q55 => ?_) (fun q55 => ?_)
      · replace hb48 := ite_n (P := fun r_ : Bool => b48 = r_) q55 hb48
        exact or_lv _ rfl (J48f hb48)
      · replace hb48 := ite_p (P := fun r_ : Bool => b48 = r_) q55 hb48
        exact or_lv _ rfl (J48t hb48)
  refine or_iload E rfl dL_acted_19 ?_
  refine or_if_neN 28 E dL_acted_21 rfl (by omega) (fun q21 => ?_) (fun q21 => ?_)
  · replace hb19 := ite_n (P := fun r_ : Int32 => b19 = r_) q21 hb19
    refine or_aload_n E rfl dL_acted_28 ?_
    refine or_iload_n E rfl dL_acted_29 ?_
    refine or_iconst (v := nI 2) E rfl dL_acted_30 ?_
    refine or_iaddN E dL_acted_31 ?_
    refine or_iload E rfl dL_acted_32 ?_
    refine or_fT3r (tL_pick (Z := Z) (k := g + 2) (n := tn (A_barrelCount x I)) (by omega) (Nat.pos_of_ne_zero q21) (by omega)) E G F lk_120_27 dL_acted_34 (by decide) (by decide) ⟨by omega, by omega⟩ (Nat.le_of_ble_eq_true rfl) (fun _ => ?_) (fun h => absurd h (Nat.lt_irrefl 0))
    refine or_top (y := nI (w (g + 2) (tn (A_barrelCount x I)))) (by rw [hw]) ?_
    obtain rfl : b19 = nI (w (g + 2) (tn (A_barrelCount x I))) := hb19
    exact or_lv _ rfl J19
  · replace hb19 := ite_p (P := fun r_ : Int32 => b19 = r_) q21 hb19
    refine or_iconst (v := -1) E rfl dL_acted_24 ?_
    refine or_goto 37 E dL_acted_25 rfl ?_
    obtain rfl : b19 = (-1) := hb19
    exact or_lv _ rfl J19
