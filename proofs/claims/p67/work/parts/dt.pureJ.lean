/-! WHO NODS: THE FIRST IN A ROW THAT MAY AND WILL -/
def Fst (ok : Nat → Prop) (s : Nat → Nat) (n i : Nat) (r : Int32) : Prop := (∃ j, i ≤ j ∧ j < n ∧ ok (s j) ∧ (∀ k, i ≤ k → k < j → ¬ ok (s k)) ∧ r = nI (s j)) ∨ ((∀ k, i ≤ k → k < n → ¬ ok (s k)) ∧ r = -1)
section FST
variable {ok : Nat → Prop} {s : Nat → Nat} {n i : Nat} {r r' : Int32}
theorem Fst.uniq (h : Fst ok s n i r) (h' : Fst ok s n i r') : r = r' := by
  rcases h with ⟨j, a1, a2, a3, a4, a5⟩ | ⟨a1, a2⟩
  · rcases h' with ⟨j', b1, b2, b3, b4, b5⟩ | ⟨b1, b2⟩
    · have : j = j' := by
        rcases Nat.lt_trichotomy j j' with h | h | h
        · exact absurd a3 (b4 j a1 h)
        · exact h
        · exact absurd b3 (a4 j' b1 h)
      rw [a5, b5, this]
    · exact absurd a3 (b1 j a1 a2)
  · rcases h' with ⟨j', b1, b2, b3, b4, b5⟩ | ⟨b1, b2⟩
    · exact absurd b3 (a1 j' b1 b2)
    · rw [a2, b2]
theorem Fst.hit (hi : i < n) (h : ok (s i)) : Fst ok s n i (nI (s i)) := Or.inl ⟨i, Nat.le_refl _, hi, h, fun k h1 h2 => absurd h2 (by omega), rfl⟩
theorem Fst.nxt (h : ¬ ok (s i)) (p : Fst ok s n (i + 1) r) : Fst ok s n i r := by
  rcases p with ⟨j, a1, a2, a3, a4, a5⟩ | ⟨a1, a2⟩
  · refine Or.inl ⟨j, by omega, a2, a3, fun k h1 h2 => ?_, a5⟩
    by_cases e : k = i
    · subst e; exact h
    · exact a4 k (by omega) h2
  · refine Or.inr ⟨fun k h1 h2 => ?_, a2⟩
    by_cases e : k = i
    · subst e; exact h
    · exact a1 k (by omega) h2
theorem Fst.out (h : n ≤ i) : Fst ok s n i (-1) := Or.inr ⟨fun k h1 h2 => absurd h2 (by omega), rfl⟩
theorem Fst.cg {ok' : Nat → Prop} (e : ∀ k, i ≤ k → k < n → (ok (s k) ↔ ok' (s k))) (h : Fst ok s n i r) : Fst ok' s n i r := by
  rcases h with ⟨j, a1, a2, a3, a4, a5⟩ | ⟨a1, a2⟩
  · exact Or.inl ⟨j, a1, a2, (e j a1 a2).mp a3, fun k h1 h2 z => a4 k h1 h2 ((e k h1 (by omega)).mpr z), a5⟩
  · exact Or.inr ⟨fun k h1 h2 z => a1 k h1 h2 ((e k h1 h2).mpr z), a2⟩
end FST
section MIN
variable {m x q B : Nat} {I J : ow_I} {f : Nat → Int32}
theorem th_F (hv : md_V (J (m + 1))) (h8 : 0 ≤ J (m + 1) 8) : Fst (fun b => M_reasonAgainst m b J = 0 ∧ ¬ Op.cmpValue (FP.dcmp (M_worthTo m b (tn (J (m + 1) 8)) J) (FP.i2d (M_bidNext m J))) .l < 0) (askd (J (m + 1))) (tn (J (m + 1) 6)) 0 (M_thinker m J) := by
  have h6 := hv.2.1.2
  unfold M_thinker
  rw [if_pos h8]
  have L : ∀ (fuel i : Nat), i ≤ tn (J (m + 1) 6) → tn (J (m + 1) 6) < i + fuel → Fst (fun b => M_reasonAgainst m b J = 0 ∧ ¬ Op.cmpValue (FP.dcmp (M_worthTo m b (tn (J (m + 1) 8)) J) (FP.i2d (M_bidNext m J))) .l < 0) (askd (J (m + 1))) (tn (J (m + 1) 6)) i (M_thinker_L14 m fuel J (i + 1)) := by
    intro fuel
    induction fuel with
    | zero => intro i h1 h2; omega
    | succ fuel ih =>
      intro i h1 h2
      simp only [M_thinker_L14]
      by_cases e : tn (J (m + 1) 6) < i + 1
      · rw [if_pos e]; exact Fst.out (by omega)
      · rw [if_neg e, askd_M hv (by omega), tn_nI (by have := askd_lt hv i; omega)]
        by_cases e1 : M_reasonAgainst m (askd (J (m + 1)) i) J = 0
        · rw [if_pos e1]
          by_cases e2 : Op.cmpValue (FP.dcmp (M_worthTo m (askd (J (m + 1)) i) (tn (J (m + 1) 8)) J) (FP.i2d (M_bidNext m J))) .l < 0
          · rw [if_pos e2]; exact Fst.nxt (fun z => z.2 e2) (ih (i + 1) (by omega) (by omega))
          · rw [if_neg e2]; exact Fst.hit (by omega) ⟨e1, e2⟩
        · rw [if_neg e1]; exact Fst.nxt (fun z => e1 z.1) (ih (i + 1) (by omega) (by omega))
  exact L 8 0 (Nat.zero_le _) (by omega)
theorem lo_eq (hq : I q 0 = f 0 ∧ I q 1 = f 1 ∧ I q 2 = f 2 ∧ I q 3 = f 4) (v : Int32) : L_open q v I = M_isOpenIn 0 v (gm f) := by
  unfold L_open M_isOpenIn
  rw [hq.1, hq.2.1]
  rfl
theorem co_eq (hq : I q 0 = f 0 ∧ I q 1 = f 1 ∧ I q 2 = f 2 ∧ I q 3 = f 4) (v : Int32) : L_cost q v I = M_costOfPrice 0 v (gm f) := by
  unfold L_cost M_costOfPrice
  rw [hq.2.2.2]
  rfl
/-- the buyer that is asked i-th -/
theorem ask_L (hr : rl (x + 1) I f) (hv : md_V f) {i : Nat} (hi : i < tn (f 6)) : (if 0 ≤ A_leader x I then (A_leader x I + (nI 1) + (nI i)) - (A_leader x I + (nI 1) + (nI i)) / (A_buyerCount x I) * (A_buyerCount x I) else nI i) = nI (askd f i) := by
  have h6 := hv.2.1
  rw [show A_leader x I = f 10 from hr.2.2.2.1.2.1, show A_buyerCount x I = f 6 from hr.2.2.1.1]
  unfold askd
  rcases mV10 hv with e | ⟨e1, e2, -⟩
  · rw [e, if_neg i_m1, if_pos rfl, Nat.zero_add, Nat.mod_eq_of_lt hi]
  · rw [if_pos e1, if_neg (nm1 e1)]
    have e6 := (nI_tn h6.1).symm
    have e10 := (nI_tn e1).symm
    generalize tn (f 6) = n at *
    generalize tn (f 10) = l at *
    rw [e6, e10, nI_add, nI_add, pk_rem (by omega) (by omega) (by omega)]
theorem lr_eq (hr : rl (x + 1) I f) (hv : md_V f) (hq : I q 0 = f 0 ∧ I q 1 = f 1 ∧ I q 2 = f 2 ∧ I q 3 = f 4) {b : Nat} (hb : b < tn (f 6)) : L_reason x q (nI b) I = M_reasonAgainst 0 b (gm f) := by
  have h6 := hv.2.1
  have tb : tn (nI b) = b := tn_nI (by omega)
  unfold L_reason M_reasonAgainst M_isOpenNow
  rw [lo_eq hq, show A_minute x I = f 5 from hr.1.2.2, show A_openBarrel x I = f 8 from hr.2.2.2.1.1, show A_leader x I = f 10 from hr.2.2.2.1.2.1, show gm f (0 + 1) 5 = f 5 from rfl]
  simp only [lt]
  by_cases c1 : M_isOpenIn 0 (f 5) (gm f) = true
  · rw [if_pos c1, if_pos c1]
    by_cases c2 : 0 ≤ f 8
    · rw [if_pos c2, if_pos (show 0 ≤ gm f (0 + 1) 8 from c2)]
      by_cases c3 : f 10 = nI b
      · rw [if_pos c3, if_pos (show gm f (0 + 1) 10 = nI b from c3)]
      · rw [if_neg c3, if_neg (show ¬ gm f (0 + 1) 10 = nI b from c3), co_eq hq]
        have ep : A_purse x (nI b) I = M_of 0 b 0 (gm f) := by
          unfold A_purse
          rw [tb]
          exact rl_buy hr hb (by decide)
        have eb : (if 0 ≤ f 10 then A_bid x I + A_step x I else A_reserve x (f 8) I) = M_bidNext 0 (gm f) := by
          unfold M_bidNext
          by_cases c4 : 0 ≤ f 10
          · rw [if_pos c4, if_pos (show 0 ≤ gm f (0 + 1) 10 from c4)]
            have e14 : A_bid x I = f 9 := by
              have := hr.2.2.2.1.2.2.1
              rw [if_neg (nm1 c4)] at this
              exact this
            rw [e14]
            show f 9 + I (x + 1) 2 = _
            rw [hr.2.1.2.1]
            rfl
          · rw [if_neg c4, if_neg (show ¬ 0 ≤ gm f (0 + 1) 10 from c4)]
            exact (rl_bar hr (rl_open (a := 0) (I := gm f) hv c2)).1
        rw [ep, eb]
    · rw [if_neg c2, if_neg (show ¬ 0 ≤ gm f (0 + 1) 8 from c2)]
  · rw [if_neg c1, if_neg c1]
theorem lw_eq (h : LI B x q I) (hr : rl (x + 1) I f) (hv : md_V f) (h8 : 0 ≤ f 8) {b : Nat} (hb : b < tn (f 6)) : L_worth x (nI b) (f 8) I = M_worthTo 0 b (tn (f 8)) (gm f) := by
  have h6 := hv.2.1
  have hk := rl_open (a := 0) (I := gm f) hv h8
  rw [← worth_eq h ⟨h8, by rw [hr.2.2.1.2.1]; exact hk⟩]
  unfold A_worth
  rw [tn_nI (by omega)]
  exact val_eq (J := gm f) (m := 0) hr hv hb hk
theorem ln_eq (h : LI B x q I) (hr : rl (x + 1) I f) (hv : md_V f) (hi : iv B f) (hq : I q 0 = f 0 ∧ I q 1 = f 1 ∧ I q 2 = f 2 ∧ I q 3 = f 4) : A_nextNodder x I = L_nodder x q I := by
  have h6 := hv.2.1
  unfold A_nextNodder
  rw [who_eq (J := gm f) (m := 0) hr hv hi]
  unfold L_nodder
  rw [show A_openBarrel x I = f 8 from hr.2.2.2.1.1]
  by_cases h8 : 0 ≤ f 8
  · rw [if_pos h8]
    refine (th_F (m := 0) (J := gm f) hv h8).uniq ?_
    have np : A_nextBid x I = M_bidNext 0 (gm f) := np_eq (J := gm f) (m := 0) hr hv h8
    have e8 : tn (A_buyerCount x I) = tn (f 6) := congrArg tn hr.2.2.1.1
    have L : ∀ (fuel i : Nat), i ≤ tn (f 6) → tn (f 6) < i + fuel → Fst (fun b => M_reasonAgainst 0 b (gm f) = 0 ∧ ¬ Op.cmpValue (FP.dcmp (M_worthTo 0 b (tn (gm f (0 + 1) 8)) (gm f)) (FP.i2d (M_bidNext 0 (gm f)))) .l < 0) (askd (gm f (0 + 1))) (tn (gm f (0 + 1) 6)) i (L_nodder_L16 x q fuel I i) := by
      intro fuel
      induction fuel with
      | zero => intro i h1 h2; omega
      | succ fuel ih =>
        intro i h1 h2
        simp only [L_nodder_L16, lt]
        rw [e8]
        by_cases e : tn (f 6) ≤ i
        · rw [if_pos e]; exact Fst.out e
        · rw [if_neg e, ask_L hr hv (by omega), lr_eq hr hv hq (askd_lt hv i), np, show A_openBarrel x I = f 8 from hr.2.2.2.1.1, lw_eq h hr hv h8 (askd_lt hv i)]
          by_cases e1 : M_reasonAgainst 0 (askd f i) (gm f) = 0
          · rw [if_pos e1]
            by_cases e2 : Op.cmpValue (FP.dcmp (M_worthTo 0 (askd f i) (tn (f 8)) (gm f)) (FP.i2d (M_bidNext 0 (gm f)))) .l < 0
            · rw [if_pos e2]; exact Fst.nxt (fun z => z.2 e2) (ih (i + 1) (by omega) (by omega))
            · rw [if_neg e2]; exact Fst.hit (show i < tn (f 6) by omega) ⟨e1, e2⟩
          · rw [if_neg e1]; exact Fst.nxt (fun z => e1 z.1) (ih (i + 1) (by omega) (by omega))
    exact L 7 0 (Nat.zero_le _) (by omega)
  · rw [if_neg h8]
    show M_thinker 0 (gm f) = -1
    unfold M_thinker
    exact if_neg h8
/-- the minute's loop finds whom the reference finds -/
theorem lm_eq (h : LI B x q I) (hr : rl (x + 1) I f) (hv : md_V f) (hi : iv B f) (hB : B < 2 ^ 28) (hq : I q 0 = f 0 ∧ I q 1 = f 1 ∧ I q 2 = f 2 ∧ I q 3 = f 4) (h8 : 0 ≤ f 8) (ho : M_isOpenIn 0 (f 5 + nI 1) (gm f) = true) (v2 v5 v6 v7 v8 v9 v10 : Int32) (cl : Bool) : L_minute_L134 x q 7 I v2 (A_openBarrel x I) (A_leader x I) v5 v6 v7 v8 v9 v10 cl (-1) 0 = M_thinker 0 (tk1 0 (gm f)) := by
  have h6 := hv.2.1
  have hv1 : md_V (tk1 0 (gm f) (0 + 1)) := tk1_v (J := gm f) (m := 0) hv
  have q8 : tk1 0 (gm f) (0 + 1) 8 = f 8 := by rw [tk1_r, if_neg (by decide)]; rfl
  have q6 : tk1 0 (gm f) (0 + 1) 6 = f 6 := by rw [tk1_r, if_neg (by decide)]; rfl
  have q10 : tk1 0 (gm f) (0 + 1) 10 = f 10 := by rw [tk1_r, if_neg (by decide)]; rfl
  have qr : ∀ j, j ≠ 5 → tk1 0 (gm f) (0 + 1) j = f j := fun j hj => by rw [tk1_r, if_neg hj]; rfl
  have hF := th_F (m := 0) (J := tk1 0 (gm f)) hv1 (by rw [q8]; exact h8)
  have ea : askd (tk1 0 (gm f) (0 + 1)) = askd f := by
    funext i
    unfold askd
    rw [q10, q6]
  rw [ea, q6, q8] at hF
  refine Fst.uniq ?_ hF
  have np : A_nextBid x I = M_bidNext 0 (gm f) := np_eq (J := gm f) (m := 0) hr hv h8
  have e8 : tn (A_buyerCount x I) = tn (f 6) := congrArg tn hr.2.2.1.1
  have hr1 : rl (x + 1) (ow_u I (x + 1 + 1) 2 (I (x + 1 + 1) 2 + nI 1)) (tk1 0 (gm f) (0 + 1)) := rl_t1 (J := gm f) (m := 0) hr hv (by rw [hr.1.2.2]; rfl)
  have hk := rl_open (a := 0) (I := gm f) hv h8
  have ew : ∀ b, b < tn (f 6) → M_worthTo 0 b (tn (f 8)) (tk1 0 (gm f)) = L_worth x (nI b) (f 8) I := fun b hb => by
    rw [lw_eq h hr hv h8 hb, ← val_eq (J := gm f) (m := 0) hr hv hb hk, ← val_eq (J := tk1 0 (gm f)) (m := 0) hr1 hv1 (by rw [q6]; exact hb) (by rw [tk1_r, if_neg (by decide)]; exact hk)]
    unfold Y_valueOf
    have r1 : ∀ j, ow_u I (x + 1 + 1) 2 (I (x + 1 + 1) 2 + nI 1) (x + 1 + 5 + b) j = I (x + 1 + 5 + b) j := fun j => ow_u_a _ _ _ _ (by omega) j
    have r2 : ∀ j, ow_u I (x + 1 + 1) 2 (I (x + 1 + 1) 2 + nI 1) (x + 1 + 11 + 2 * tn (f 8)) j = I (x + 1 + 11 + 2 * tn (f 8)) j := fun j => ow_u_a _ _ _ _ (by omega) j
    simp only [r1, r2]
  have eb : M_bidNext 0 (tk1 0 (gm f)) = M_bidNext 0 (gm f) := by
    unfold M_bidNext M_ofBarrel
    rw [q10, q8, qr 9 (by decide), qr 3 (by decide), qr _ (by omega)]
    rfl
  have er : ∀ b, b < tn (f 6) → (M_reasonAgainst 0 b (tk1 0 (gm f)) = 0 ↔ (¬ f 10 = nI b ∧ M_costOfPrice 0 (M_bidNext 0 (gm f)) (gm f) ≤ f (36 + 5 * b))) := fun b hb => by
    have o1 : M_isOpenNow 0 (tk1 0 (gm f)) = true := by
      unfold M_isOpenNow
      rw [tk1_r, if_pos rfl]
      rw [← ho]
      unfold M_isOpenIn
      rw [qr 0 (by decide), qr 1 (by decide)]
      rfl
    have c1 : M_costOfPrice 0 (M_bidNext 0 (gm f)) (tk1 0 (gm f)) = M_costOfPrice 0 (M_bidNext 0 (gm f)) (gm f) := by
      unfold M_costOfPrice
      rw [tk1_r, if_neg (by decide)]
    have c2 : M_of 0 b 0 (tk1 0 (gm f)) = f (36 + 5 * b) := by
      unfold M_of
      rw [tk1_r, if_neg (by omega)]
      rfl
    unfold M_reasonAgainst
    rw [if_pos o1, q8, if_pos h8, q10, eb, c1, c2]
    by_cases d1 : f 10 = nI b
    · rw [if_pos d1]; exact ⟨fun z => absurd z (by decide), fun z => absurd d1 z.1⟩
    · rw [if_neg d1]
      by_cases d2 : M_costOfPrice 0 (M_bidNext 0 (gm f)) (gm f) ≤ f (36 + 5 * b)
      · rw [if_pos d2]; exact ⟨fun _ => ⟨d1, d2⟩, fun _ => rfl⟩
      · rw [if_neg d2]; exact ⟨fun z => absurd z (by decide), fun z => absurd z.2 d2⟩
  have out : ∀ (fuel i r : Nat), r < 2 ^ 31 → 1 ≤ fuel → L_minute_L134 x q fuel I v2 (A_openBarrel x I) (A_leader x I) v5 v6 v7 v8 v9 v10 cl (nI r) i = nI r := fun fuel i r hr hf => by
    obtain ⟨d, rfl⟩ : ∃ d, fuel = d + 1 := ⟨fuel - 1, by omega⟩
    simp only [L_minute_L134]
    split
    · rfl
    · rw [if_pos (nI_ge0 hr)]
  have L : ∀ (fuel i : Nat), i ≤ tn (f 6) → tn (f 6) < i + fuel → Fst (fun b => M_reasonAgainst 0 b (tk1 0 (gm f)) = 0 ∧ ¬ Op.cmpValue (FP.dcmp (M_worthTo 0 b (tn (f 8)) (tk1 0 (gm f))) (FP.i2d (M_bidNext 0 (tk1 0 (gm f))))) .l < 0) (askd f) (tn (f 6)) i (L_minute_L134 x q fuel I v2 (A_openBarrel x I) (A_leader x I) v5 v6 v7 v8 v9 v10 cl (-1) i) := by
    intro fuel
    induction fuel with
    | zero => intro i h1 h2; omega
    | succ fuel ih =>
      intro i h1 h2
      simp only [L_minute_L134, lt]
      rw [e8]
      by_cases e : tn (f 6) ≤ i
      · rw [if_pos e]; exact Fst.out e
      · have hb := askd_lt hv i
        have hp : A_purse x (nI (askd f i)) I = f (36 + 5 * askd f i) := by
          unfold A_purse
          rw [tn_nI (by omega)]
          exact rl_buy hr hb (by decide)
        rw [if_neg e, if_neg i_m1, ask_L hr hv (by omega), hp, np, co_eq hq, show A_openBarrel x I = f 8 from hr.2.2.2.1.1, ← ew _ hb, show A_leader x I = f 10 from hr.2.2.2.1.2.1]
        have ihh := ih (i + 1) (by omega) (by omega)
        rw [show A_openBarrel x I = f 8 from hr.2.2.2.1.1, show A_leader x I = f 10 from hr.2.2.2.1.2.1] at ihh
        by_cases d1 : nI (askd f i) = f 10
        · rw [if_pos d1]
          exact Fst.nxt (fun z => ((er _ hb).mp z.1).1 d1.symm) ihh
        · rw [if_neg d1]
          by_cases d2 : f (36 + 5 * askd f i) < M_costOfPrice 0 (M_bidNext 0 (gm f)) (gm f)
          · rw [if_pos d2]
            exact Fst.nxt (fun z => absurd ((er _ hb).mp z.1).2 (Int32.not_le.mpr d2)) ihh
          · rw [if_neg d2]
            have hz := (er _ hb).mpr ⟨fun z => d1 z.symm, i_nlt d2⟩
            by_cases d3 : Op.cmpValue (FP.dcmp (M_worthTo 0 (askd f i) (tn (f 8)) (tk1 0 (gm f))) (FP.i2d (M_bidNext 0 (gm f)))) .l < 0
            · rw [if_pos d3]
              exact Fst.nxt (fun z => z.2 (by rw [eb]; exact d3)) ihh
            · rw [if_neg d3]
              have o := out fuel (i + 1) (askd f i) (by omega) (by omega)
              rw [show A_openBarrel x I = f 8 from hr.2.2.2.1.1, show A_leader x I = f 10 from hr.2.2.2.1.2.1] at o
              rw [o]
              exact Fst.hit (by omega) ⟨hz, by rw [eb]; exact d3⟩
  exact L 7 0 (Nat.zero_le _) (by omega)
/-- the horn -/
theorem hn_eq {t p l n : Nat} (h0 : I t 0 = nI p) (h1 : I t 1 = nI l) (h2 : I t 2 = nI n) (hp : 5 ≤ p ∧ p ≤ 60) (hl : 1 ≤ l ∧ l ≤ p) (hn : n < 2 ^ 30) : T_untilHorn t I = nI 1 ↔ (n + 1) % p = l := by
  unfold T_untilHorn
  have hr : n % p < p := Nat.mod_lt _ (by omega)
  have hm : (n + 1) % p = if n % p + 1 = p then 0 else n % p + 1 := by
    rw [Nat.add_mod, Nat.mod_eq_of_lt (show 1 < p by omega)]
    split
    · rename_i e; rw [e, Nat.mod_self]
    · exact Nat.mod_eq_of_lt (by omega)
  rw [h0, h1, h2, if_neg (show ¬ nI p ≤ 0 from fun z => absurd ((nI_le' (by omega) (by decide)).mp (show nI p ≤ nI 0 from z)) (by omega)), pk_rem (by omega) (by omega) (by omega), hm]
  generalize n % p = r at hr ⊢
  by_cases c : l < p
  · rw [if_pos ((nI_lt' (by omega) (by omega)).mpr c)]
    rcases Nat.lt_trichotomy r l with d | d | d
    · rw [nI_sb (by omega), if_neg (show ¬ nI (l - r) ≤ 0 from fun z => absurd ((nI_le' (by omega) (by decide)).mp (show nI (l - r) ≤ nI 0 from z)) (by omega)), nI_eq (by omega) (by decide)]
      rw [if_neg (by omega)]
      omega
    · subst d
      rw [nI_sb (Nat.le_refl _), Nat.sub_self, if_pos (show nI 0 ≤ 0 from Int32.le_refl _), nI_add, nI_eq (by omega) (by decide)]
      split <;> omega
    · have hle : nI l - nI r ≤ 0 := by
        rw [Int32.le_iff_toInt_le, pk_sub_toInt (by omega) (by omega)]
        show (l : Int) - r ≤ 0
        omega
      rw [if_pos hle]
      have : nI l - nI r + nI p = nI (l + p - r) := by
        rw [← nI_sb (by omega), ← nI_add]
        grind
      rw [this, nI_eq (by omega) (by decide)]
      split <;> omega
  · rw [if_neg (fun z => c ((nI_lt' (by omega) (by omega)).mp z))]
    constructor
    · intro z; exact absurd z (by decide)
    · intro z
      split at z <;> omega
end MIN
