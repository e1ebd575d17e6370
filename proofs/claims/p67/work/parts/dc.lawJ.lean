def L_foretold_L42 (x : Nat) (m : Nat) (b : Int32) : Nat → ow_I → Int32 → Int32 → Int32 → Int32 → Nat → Bool × ow_I
  | 0, I, _, _, _, _, _ => (default, I)
  | n + 1, I, ms, bu, se, s, i => if 40 < i then if s < 0 then if ms < 0 then if A_buyerOf x b I = bu then if A_sellerCoins x I = se then (true, I) else (false, I) else (false, I) else if ms ≤ nI 40 then (false, I) else if A_buyerOf x b I = bu then if A_sellerCoins x I = se then (true, I) else (false, I) else (false, I) else if ms = s then if A_buyerOf x b I = bu then if A_sellerCoins x I = se then (true, I) else (false, I) else (false, I) else (false, I) else lt (L_minute x m I) (fun (r4 : Bool × ow_I) => if r4.1 then if 0 ≤ s then L_foretold_L42 x m b n r4.2 ms bu se s (i + 1) else if A_stateOf x b r4.2 = nI 2 then L_foretold_L42 x m b n r4.2 ms bu se (nI i) (i + 1) else L_foretold_L42 x m b n r4.2 ms bu se s (i + 1) else (false, r4.2))
def L_foretold (x : Nat) (m : Nat) (b : Int32) (I : ow_I) : Bool × ow_I :=
  lt (A_minutesToSale x b I) (fun (r1 : Int32 × ow_I) => lt (A_buyerAfter x b (nI 40) r1.2) (fun (r2 : Int32 × ow_I) => lt (A_sellerCoinsAfter x (nI 40) r2.2) (fun (r3 : Int32 × ow_I) => lt (if A_stateOf x b r3.2 = nI 2 then nI 0 else (-1)) (fun (b23 : Int32) => L_foretold_L42 x m b 41 r3.2 r1.1 r2.1 r3.1 b23 1))))
set_option maxRecDepth 100000 in
set_option maxHeartbeats 1000000 in
theorem tL_foretold {Z : Nat → Nat} {S : Nat → Option ow_Sh} {I : ow_I} {V : Nat → Nat → Value} {z : Nat} {x : Nat} {m : Nat} {b : Int32} {B : Nat} (h_x : au_S S x) (h_m : m4_S S m) (hI : LI B x m I) (hb : 0 ≤ b ∧ tn b < tn (I (x + 1) 10)) (hB : B + 50 ≤ 100000) (hQ : qFor B x m b I) (hM : qMin x m) : ow_Cx Z yL_foretold cL_foretold 8 (some .boolean) 7 0 0 [.ref x, .ref m, .int b] (S, I, V, z) (ox_s S V z 0 (some (.int (bi ((L_foretold x m b I).1)))) ((L_foretold x m b I).2)) := by
  refine ow_Cx.off rfl (Nat.le_of_ble_eq_true rfl) (fun X K E G F hk => ?_)
  have E : ow_E X RX120 cL_foretold 8 (ow_rm 7 0 0) := E
  refine or_lv [(0, .ref x), (1, .ref m), (2, .int b)] rfl ?_
  have L42 : ∀ (n : Nat) (I : ow_I) (ms : Int32) (bu : Int32) (se : Int32) (s : Int32) (i : Nat) (hJ : (∃ B : Nat, LI B x m I ∧ B + 41 ≤ 100000 + i) ∧ (0 ≤ b ∧ tn b < tn (I (x + 1) 10)) ∧ i ≤ 41) (hm : 41 - i < n) (hk : ox_e K S V z 0 (some (.int (bi ((L_foretold_L42 x m b n I ms bu se s i).1)))) ((L_foretold_L42 x m b n I ms bu se s i).2)), ow_W X 0 0 (S, I, V, z) 42 [(0, .ref x), (1, .ref m), (2, .int b), (3, .int ms), (4, .int bu), (5, .int se), (6, .int s), (7, .int (nI i))] [] := by
    intro n
    induction n with
    | zero => intro I ms bu se s i hJ hm; omega
    | succ n ih =>
      intro I ms bu se s i hJ hm hk
      dsimp only [L_foretold_L42] at hk
      obtain ⟨⟨B', hI', hB'⟩, hb', hi⟩ := hJ
      refine or_iload E rfl dL_foretold_42 ?_
      refine or_bipush (v := nI 40) E rfl dL_foretold_44 ?_
      refine or_icmp_gtN 83 E dL_foretold_46 rfl (by omega) (by omega) (fun q46 => ?_) (fun q46 => ?_)
      · replace hk := ite_p (P := fun r : Bool × ow_I => ox_e K S V z 0 (some (.int (bi ((r).1)))) ((r).2)) q46 hk
        refine or_iload E rfl dL_foretold_83 ?_
        refine or_if_lt 97 E dL_foretold_85 rfl (fun q85 => ?_) (fun q85 => ?_)
        · replace hk := ite_p (P := fun r : Bool × ow_I => ox_e K S V z 0 (some (.int (bi ((r).1)))) ((r).2)) q85 hk
          refine or_iload_n E rfl dL_foretold_97 ?_
          refine or_if_lt 107 E dL_foretold_98 rfl (fun q98 => ?_) (fun q98 => ?_)
          · replace hk := ite_p (P := fun r : Bool × ow_I => ox_e K S V z 0 (some (.int (bi ((r).1)))) ((r).2)) q98 hk
            refine or_aload_n E rfl dL_foretold_107 ?_
            refine or_iload_n E rfl dL_foretold_108 ?_
            refine or_fV1r (cA_buyerOf (Z := Z)  h_x hI'.1.1 hb') E G F lk_120_160 dL_foretold_109 h_x.1 rfl rfl (by decide) (by decide) ⟨(Nat.le_of_ble_eq_true rfl), (Nat.le_of_ble_eq_true rfl)⟩ (Nat.le_of_ble_eq_true rfl) (fun _ => ?_) (fun h => absurd h (Nat.lt_irrefl 0))
            refine or_iload E rfl dL_foretold_112 ?_
            refine or_icmp_ne 130 E dL_foretold_114 rfl (fun q114 => ?_) (fun q114 => ?_)
            · replace hk := ite_n (P := fun r : Bool × ow_I => ox_e K S V z 0 (some (.int (bi ((r).1)))) ((r).2)) q114 hk
              refine or_iconst (v := nI 0) E rfl dL_foretold_130 ?_
              try dsimp only at hk
              exact or_xr E F (fun X' E' F' => or_zret E' F' dL_foretold_131 (Nat.le_of_ble_eq_true rfl) (Nat.le_of_ble_eq_true rfl) (bi_nar false) (hk.1 rfl))
            · replace hk := ite_p (P := fun r : Bool × ow_I => ox_e K S V z 0 (some (.int (bi ((r).1)))) ((r).2)) q114 hk
              refine or_aload_n E rfl dL_foretold_117 ?_
              refine or_fV0r (cA_sellerCoins (Z := Z)  h_x ) E G F lk_120_142 dL_foretold_118 h_x.1 rfl rfl (by decide) (by decide) ⟨(Nat.le_of_ble_eq_true rfl), (Nat.le_of_ble_eq_true rfl)⟩ (Nat.le_of_ble_eq_true rfl) (fun _ => ?_) (fun h => absurd h (Nat.lt_irrefl 0))
              refine or_iload E rfl dL_foretold_121 ?_
              refine or_icmp_ne 130 E dL_foretold_123 rfl (fun q123 => ?_) (fun q123 => ?_)
              · replace hk := ite_n (P := fun r : Bool × ow_I => ox_e K S V z 0 (some (.int (bi ((r).1)))) ((r).2)) q123 hk
                refine or_iconst (v := nI 0) E rfl dL_foretold_130 ?_
                try dsimp only at hk
                exact or_xr E F (fun X' E' F' => or_zret E' F' dL_foretold_131 (Nat.le_of_ble_eq_true rfl) (Nat.le_of_ble_eq_true rfl) (bi_nar false) (hk.1 rfl))
              · replace hk := ite_p (P := fun r : Bool × ow_I => ox_e K S V z 0 (some (.int (bi ((r).1)))) ((r).2)) q123 hk
                refine or_iconst (v := nI 1) E rfl dL_foretold_126 ?_
                refine or_goto 131 E dL_foretold_127 rfl ?_
                try dsimp only at hk
                exact or_xr E F (fun X' E' F' => or_zret E' F' dL_foretold_131 (Nat.le_of_ble_eq_true rfl) (Nat.le_of_ble_eq_true rfl) (bi_nar true) (hk.1 rfl))
          · replace hk := ite_n (P := fun r : Bool × ow_I => ox_e K S V z 0 (some (.int (bi ((r).1)))) ((r).2)) q98 hk
            refine or_iload_n E rfl dL_foretold_101 ?_
            refine or_bipush (v := nI 40) E rfl dL_foretold_102 ?_
            refine or_icmp_le 130 E dL_foretold_104 rfl (fun q104 => ?_) (fun q104 => ?_)
            · replace hk := ite_p (P := fun r : Bool × ow_I => ox_e K S V z 0 (some (.int (bi ((r).1)))) ((r).2)) q104 hk
              refine or_iconst (v := nI 0) E rfl dL_foretold_130 ?_
              try dsimp only at hk
              exact or_xr E F (fun X' E' F' => or_zret E' F' dL_foretold_131 (Nat.le_of_ble_eq_true rfl) (Nat.le_of_ble_eq_true rfl) (bi_nar false) (hk.1 rfl))
            · replace hk := ite_n (P := fun r : Bool × ow_I => ox_e K S V z 0 (some (.int (bi ((r).1)))) ((r).2)) q104 hk
              refine or_aload_n E rfl dL_foretold_107 ?_
              refine or_iload_n E rfl dL_foretold_108 ?_
              refine or_fV1r (cA_buyerOf (Z := Z)  h_x hI'.1.1 hb') E G F lk_120_160 dL_foretold_109 h_x.1 rfl rfl (by decide) (by decide) ⟨(Nat.le_of_ble_eq_true rfl), (Nat.le_of_ble_eq_true rfl)⟩ (Nat.le_of_ble_eq_true rfl) (fun _ => ?_) (fun h => absurd h (Nat.lt_irrefl 0))
              refine or_iload E rfl dL_foretold_112 ?_
              refine or_icmp_ne 130 E dL_foretold_114 rfl (fun q114 => ?_) (fun q114 => ?_)
              · replace hk := ite_n (P := fun r : Bool × ow_I => ox_e K S V z 0 (some (.int (bi ((r).1)))) ((r).2)) q114 hk
                refine or_iconst (v := nI 0) E rfl dL_foretold_130 ?_
                try dsimp only at hk
                exact or_xr E F (fun X' E' F' => or_zret E' F' dL_foretold_131 (Nat.le_of_ble_eq_true rfl) (Nat.le_of_ble_eq_true rfl) (bi_nar false) (hk.1 rfl))
              · replace hk := ite_p (P := fun r : Bool × ow_I => ox_e K S V z 0 (some (.int (bi ((r).1)))) ((r).2)) q114 hk
                refine or_aload_n E rfl dL_foretold_117 ?_
                refine or_fV0r (cA_sellerCoins (Z := Z)  h_x ) E G F lk_120_142 dL_foretold_118 h_x.1 rfl rfl (by decide) (by decide) ⟨(Nat.le_of_ble_eq_true rfl), (Nat.le_of_ble_eq_true rfl)⟩ (Nat.le_of_ble_eq_true rfl) (fun _ => ?_) (fun h => absurd h (Nat.lt_irrefl 0))
                refine or_iload E rfl dL_foretold_121 ?_
                refine or_icmp_ne 130 E dL_foretold_123 rfl (fun q123 => ?_) (fun q123 => ?_)
                · replace hk := ite_n (P := fun r : Bool × ow_I => ox_e K S V z 0 (some (.int (bi ((r).1)))) ((r).2)) q123 hk
                  refine or_iconst (v := nI 0) E rfl dL_foretold_130 ?_
                  try dsimp only at hk
                  exact or_xr E F (fun X' E' F' => or_zret E' F' dL_foretold_131 (Nat.le_of_ble_eq_true rfl) (Nat.le_of_ble_eq_true rfl) (bi_nar false) (hk.1 rfl))
                · replace hk := ite_p (P := fun r : Bool × ow_I => ox_e K S V z 0 (some (.int (bi ((r).1)))) ((r).2)) q123 hk
                  refine or_iconst (v := nI 1) E rfl dL_foretold_126 ?_
                  refine or_goto 131 E dL_foretold_127 rfl ?_
                  try dsimp only at hk
                  exact or_xr E F (fun X' E' F' => or_zret E' F' dL_foretold_131 (Nat.le_of_ble_eq_true rfl) (Nat.le_of_ble_eq_true rfl) (bi_nar true) (hk.1 rfl))
        · replace hk := ite_n (P := fun r : Bool × ow_I => ox_e K S V z 0 (some (.int (bi ((r).1)))) ((r).2)) q85 hk
          refine or_iload_n E rfl dL_foretold_88 ?_
          refine or_iload E rfl dL_foretold_89 ?_
          refine or_icmp_ne 130 E dL_foretold_91 rfl (fun q91 => ?_) (fun q91 => ?_)
          · replace hk := ite_n (P := fun r : Bool × ow_I => ox_e K S V z 0 (some (.int (bi ((r).1)))) ((r).2)) q91 hk
            refine or_iconst (v := nI 0) E rfl dL_foretold_130 ?_
            try dsimp only at hk
            exact or_xr E F (fun X' E' F' => or_zret E' F' dL_foretold_131 (Nat.le_of_ble_eq_true rfl) (Nat.le_of_ble_eq_true rfl) (bi_nar false) (hk.1 rfl))
          · replace hk := ite_p (P := fun r : Bool × ow_I => ox_e K S V z 0 (some (.int (bi ((r).1)))) ((r).2)) q91 hk
            refine or_goto 107 E dL_foretold_94 rfl ?_
            refine or_aload_n E rfl dL_foretold_107 ?_
            refine or_iload_n E rfl dL_foretold_108 ?_
            refine or_fV1r (cA_buyerOf (Z := Z)  h_x hI'.1.1 hb') E G F lk_120_160 dL_foretold_109 h_x.1 rfl rfl (by decide) (by decide) ⟨(Nat.le_of_ble_eq_true rfl), (Nat.le_of_ble_eq_true rfl)⟩ (Nat.le_of_ble_eq_true rfl) (fun _ => ?_) (fun h => absurd h (Nat.lt_irrefl 0))
            refine or_iload E rfl dL_foretold_112 ?_
            refine or_icmp_ne 130 E dL_foretold_114 rfl (fun q114 => ?_) (fun q114 => ?_)
            · replace hk := ite_n (P := fun r : Bool × ow_I => ox_e K S V z 0 (some (.int (bi ((r).1)))) ((r).2)) q114 hk
              refine or_iconst (v := nI 0) E rfl dL_foretold_130 ?_
              try dsimp only at hk
              exact or_xr E F (fun X' E' F' => or_zret E' F' dL_foretold_131 (Nat.le_of_ble_eq_true rfl) (Nat.le_of_ble_eq_true rfl) (bi_nar false) (hk.1 rfl))
            · replace hk := ite_p (P := fun r : Bool × ow_I => ox_e K S V z 0 (some (.int (bi ((r).1)))) ((r).2)) q114 hk
              refine or_aload_n E rfl dL_foretold_117 ?_
              refine or_fV0r (cA_sellerCoins (Z := Z)  h_x ) E G F lk_120_142 dL_foretold_118 h_x.1 rfl rfl (by decide) (by decide) ⟨(Nat.le_of_ble_eq_true rfl), (Nat.le_of_ble_eq_true rfl)⟩ (Nat.le_of_ble_eq_true rfl) (fun _ => ?_) (fun h => absurd h (Nat.lt_irrefl 0))
              refine or_iload E rfl dL_foretold_121 ?_
              refine or_icmp_ne 130 E dL_foretold_123 rfl (fun q123 => ?_) (fun q123 => ?_)
              · replace hk := ite_n (P := fun r : Bool × ow_I => ox_e K S V z 0 (some (.int (bi ((r).1)))) ((r).2)) q123 hk
                refine or_iconst (v := nI 0) E rfl dL_foretold_130 ?_
                try dsimp only at hk
                exact or_xr E F (fun X' E' F' => or_zret E' F' dL_foretold_131 (Nat.le_of_ble_eq_true rfl) (Nat.le_of_ble_eq_true rfl) (bi_nar false) (hk.1 rfl))
              · replace hk := ite_p (P := fun r : Bool × ow_I => ox_e K S V z 0 (some (.int (bi ((r).1)))) ((r).2)) q123 hk
                refine or_iconst (v := nI 1) E rfl dL_foretold_126 ?_
                refine or_goto 131 E dL_foretold_127 rfl ?_
                try dsimp only at hk
                exact or_xr E F (fun X' E' F' => or_zret E' F' dL_foretold_131 (Nat.le_of_ble_eq_true rfl) (Nat.le_of_ble_eq_true rfl) (bi_nar true) (hk.1 rfl))
      · replace hk := ite_n (P := fun r : Bool × ow_I => ox_e K S V z 0 (some (.int (bi ((r).1)))) ((r).2)) q46 hk
        refine or_aload_n E rfl dL_foretold_49 ?_
        refine or_aload_n E rfl dL_foretold_50 ?_
        refine or_fT2r (tL_minute (Z := Z)  h_x h_m hI' (hM _ _ hI' (by omega)).1 (hM _ _ hI' (by omega)).2.1 (hM _ _ hI' (by omega)).2.2.1) E G F lk_120_220 dL_foretold_51 (by decide) (by decide) ⟨(Nat.le_of_ble_eq_true rfl), (Nat.le_of_ble_eq_true rfl)⟩ (Nat.le_of_ble_eq_true rfl) (fun _ => ?_) (fun h => absurd h (Nat.lt_irrefl 0))
        obtain ⟨r4, hr4⟩ : ∃ y_ : Bool × ow_I, y_ = L_minute x m I := ⟨_, rfl⟩
        replace hk := lt_k (P := fun r : Bool × ow_I => ox_e K S V z 0 (some (.int (bi ((r).1)))) ((r).2)) hr4 hk
        refine or_nmZ hr4 ?_
        refine or_if_neZ 59 E dL_foretold_54 rfl (fun q54 => ?_) (fun q54 => ?_)
        · replace hk := ite_p (P := fun r : Bool × ow_I => ox_e K S V z 0 (some (.int (bi ((r).1)))) ((r).2)) q54 hk
          refine or_iload E rfl dL_foretold_59 ?_
          refine or_if_ge 77 E dL_foretold_61 rfl (fun q61 => ?_) (fun q61 => ?_)
          · replace hk := ite_p (P := fun r : Bool × ow_I => ox_e K S V z 0 (some (.int (bi ((r).1)))) ((r).2)) q61 hk
            refine or_iincN (c := 1) E dL_foretold_77 rfl rfl (by decide) ?_
            refine or_goto 42 E dL_foretold_80 rfl ?_
            refine or_lv _ ?_ (ih _ _ _ _ _ _ (by subst hr4; exact ⟨⟨_, (fmn hM hI' (by omega) q54).1, (by omega)⟩, (vy_2 (fmn hM hI' (by omega) q54).2 hb'), (by omega)⟩) (by omega) hk)
            rfl
          · replace hk := ite_n (P := fun r : Bool × ow_I => ox_e K S V z 0 (some (.int (bi ((r).1)))) ((r).2)) q61 hk
            refine or_aload_n E rfl dL_foretold_64 ?_
            refine or_iload_n E rfl dL_foretold_65 ?_
            refine or_fV1r (cA_stateOf (Z := Z)  h_x (by subst hr4; exact (fmn hM hI' (by omega) q54).1.1.1) (by subst hr4; exact (vy_2 (fmn hM hI' (by omega) q54).2 hb'))) E G F lk_120_157 dL_foretold_66 h_x.1 rfl rfl (by decide) (by decide) ⟨(Nat.le_of_ble_eq_true rfl), (Nat.le_of_ble_eq_true rfl)⟩ (Nat.le_of_ble_eq_true rfl) (fun _ => ?_) (fun h => absurd h (Nat.lt_irrefl 0))
            refine or_iconst (v := nI 2) E rfl dL_foretold_69 ?_
            refine or_icmp_ne 77 E dL_foretold_70 rfl (fun q70 => ?_) (fun q70 => ?_)
            · replace hk := ite_n (P := fun r : Bool × ow_I => ox_e K S V z 0 (some (.int (bi ((r).1)))) ((r).2)) q70 hk
              refine or_iincN (c := 1) E dL_foretold_77 rfl rfl (by decide) ?_
              refine or_goto 42 E dL_foretold_80 rfl ?_
              refine or_lv _ ?_ (ih _ _ _ _ _ _ (by subst hr4; exact ⟨⟨_, (fmn hM hI' (by omega) q54).1, (by omega)⟩, (vy_2 (fmn hM hI' (by omega) q54).2 hb'), (by omega)⟩) (by omega) hk)
              rfl
            · replace hk := ite_p (P := fun r : Bool × ow_I => ox_e K S V z 0 (some (.int (bi ((r).1)))) ((r).2)) q70 hk
              refine or_iload E rfl dL_foretold_73 ?_
              refine or_istore E dL_foretold_75 (by decide) ?_
              refine or_iincN (c := 1) E dL_foretold_77 rfl rfl (by decide) ?_
              refine or_goto 42 E dL_foretold_80 rfl ?_
              refine or_lv _ ?_ (ih _ _ _ _ _ _ (by subst hr4; exact ⟨⟨_, (fmn hM hI' (by omega) q54).1, (by omega)⟩, (vy_2 (fmn hM hI' (by omega) q54).2 hb'), (by omega)⟩) (by omega) hk)
              rfl
        · replace hk := ite_n (P := fun r : Bool × ow_I => ox_e K S V z 0 (some (.int (bi ((r).1)))) ((r).2)) (bz_neg q54) hk
          refine or_iconst (v := nI 0) E rfl dL_foretold_57 ?_
          try dsimp only at hk
          exact or_xr E F (fun X' E' F' => or_zret E' F' dL_foretold_58 (Nat.le_of_ble_eq_true rfl) (Nat.le_of_ble_eq_true rfl) (bi_nar false) (hk.1 rfl))
  try dsimp only [L_foretold] at hk
  refine or_aload_n E rfl dL_foretold_0 ?_
  refine or_iload_n E rfl dL_foretold_1 ?_
  refine or_fV1r (cA_minutesToSale (Z := Z)  h_x hI.1 hb) E G F lk_120_254 dL_foretold_2 h_x.1 rfl rfl (by decide) (by decide) ⟨(Nat.le_of_ble_eq_true rfl), (Nat.le_of_ble_eq_true rfl)⟩ (Nat.le_of_ble_eq_true rfl) (fun _ => ?_) (fun h => absurd h (Nat.lt_irrefl 0))
  obtain ⟨r1, hr1⟩ : ∃ y_ : Int32 × ow_I, y_ = A_minutesToSale x b I := ⟨_, rfl⟩
  replace hk := lt_k (P := fun r : Bool × ow_I => ox_e K S V z 0 (some (.int (bi ((r).1)))) ((r).2)) hr1 hk
  refine or_nmJ hr1 ?_
  refine or_istore_n E dL_foretold_5 (by decide) ?_
  refine or_aload_n E rfl dL_foretold_6 ?_
  refine or_iload_n E rfl dL_foretold_7 ?_
  refine or_bipush (v := nI 40) E rfl dL_foretold_8 ?_
  refine or_fV2r (cA_buyerAfter (Z := Z)  h_x (by subst hr1; exact hQ.1.1.1) (by subst hr1; exact (vy_2 hQ.1.2 hb)) (by subst hr1; decide) (by subst hr1; decide)) E G F lk_120_257 dL_foretold_10 h_x.1 rfl rfl (by decide) (by decide) ⟨(Nat.le_of_ble_eq_true rfl), (Nat.le_of_ble_eq_true rfl)⟩ (Nat.le_of_ble_eq_true rfl) (fun _ => ?_) (fun h => absurd h (Nat.lt_irrefl 0))
  obtain ⟨r2, hr2⟩ : ∃ y_ : Int32 × ow_I, y_ = A_buyerAfter x b (nI 40) r1.2 := ⟨_, rfl⟩
  replace hk := lt_k (P := fun r : Bool × ow_I => ox_e K S V z 0 (some (.int (bi ((r).1)))) ((r).2)) hr2 hk
  refine or_nmJ hr2 ?_
  refine or_istore E dL_foretold_13 (by decide) ?_
  refine or_aload_n E rfl dL_foretold_15 ?_
  refine or_bipush (v := nI 40) E rfl dL_foretold_16 ?_
  refine or_fV1r (cA_sellerCoinsAfter (Z := Z)  h_x (by subst hr2 hr1; exact hQ.2.1.1.1) (by subst hr2 hr1; decide) (by subst hr2 hr1; decide)) E G F lk_120_260 dL_foretold_18 h_x.1 rfl rfl (by decide) (by decide) ⟨(Nat.le_of_ble_eq_true rfl), (Nat.le_of_ble_eq_true rfl)⟩ (Nat.le_of_ble_eq_true rfl) (fun _ => ?_) (fun h => absurd h (Nat.lt_irrefl 0))
  obtain ⟨r3, hr3⟩ : ∃ y_ : Int32 × ow_I, y_ = A_sellerCoinsAfter x (nI 40) r2.2 := ⟨_, rfl⟩
  replace hk := lt_k (P := fun r : Bool × ow_I => ox_e K S V z 0 (some (.int (bi ((r).1)))) ((r).2)) hr3 hk
  refine or_nmJ hr3 ?_
  refine or_istore E dL_foretold_21 (by decide) ?_
  obtain ⟨b23, hb23⟩ : ∃ y_ : Int32, y_ = if A_stateOf x b r3.2 = nI 2 then nI 0 else (-1) := ⟨_, rfl⟩
  replace hk := lt_k (P := fun r : Bool × ow_I => ox_e K S V z 0 (some (.int (bi ((r).1)))) ((r).2)) hb23 hk
  have J23 : ow_W X 0 0 (S, r3.2, V, z) 37 [(0, .ref x), (1, .ref m), (2, .int b), (3, .int r1.1), (4, .int r2.1), (5, .int r3.1)] [.int b23] := by
    refine or_istore E dL_foretold_37 (by decide) ?_
    refine or_iconst (v := nI 1) E rfl dL_foretold_39 ?_
    refine or_istore E dL_foretold_40 (by decide) ?_
    refine or_lv _ ?_ (L42 41 _ _ _ _ _ _ (by subst hr3 hr2 hr1; exact ⟨⟨B, hQ.2.2.1, (by omega)⟩, (vy_2 hQ.2.2.2 hb), (by decide)⟩) (by decide) hk)
    rfl
  refine or_aload_n E rfl dL_foretold_23 ?_
  refine or_iload_n E rfl dL_foretold_24 ?_
  refine or_fV1r (cA_stateOf (Z := Z)  h_x (by subst hr3 hr2 hr1; exact hQ.2.2.1.1.1) (by subst hr3 hr2 hr1; exact (vy_2 hQ.2.2.2 hb))) E G F lk_120_157 dL_foretold_25 h_x.1 rfl rfl (by decide) (by decide) ⟨(Nat.le_of_ble_eq_true rfl), (Nat.le_of_ble_eq_true rfl)⟩ (Nat.le_of_ble_eq_true rfl) (fun _ => ?_) (fun h => absurd h (Nat.lt_irrefl 0))
  refine or_iconst (v := nI 2) E rfl dL_foretold_28 ?_
  refine or_icmp_ne 36 E dL_foretold_29 rfl (fun q29 => ?_) (fun q29 => ?_)
  · replace hb23 := ite_n (P := fun r_ : Int32 => b23 = r_) q29 hb23
    refine or_iconst (v := -1) E rfl dL_foretold_36 ?_
    obtain rfl : b23 = (-1) := hb23
    exact or_lv _ rfl J23
  · replace hb23 := ite_p (P := fun r_ : Int32 => b23 = r_) q29 hb23
    refine or_iconst (v := nI 0) E rfl dL_foretold_32 ?_
    refine or_goto 37 E dL_foretold_33 rfl ?_
    obtain rfl : b23 = nI 0 := hb23
    exact or_lv _ rfl J23
