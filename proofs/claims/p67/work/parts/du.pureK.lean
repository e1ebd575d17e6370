/-! THE LAW'S MINUTE COMES OUT TRUE (laid by wip/p67/pure_g.py) -/
def mtl (x q : Nat) (I : ow_I) (b119 : Bool × Int32) : Bool × ow_I := lt (if b119.2 < 0 then A_bid x I else A_nextBid x I) (fun (b244 : Int32) => lt (if 0 ≤ A_leader x I then A_purse x (A_leader x I) I else nI 0) (fun (b260 : Int32) => lt (if 0 ≤ A_openBarrel x I then A_returns x (A_openBarrel x I) I else nI 0) (fun (b277 : Int32) => lt (if b119.1 then if A_leader x I < 0 then false else true else false) (fun (b292 : Bool) => lt (A_passMinutes x (nI 1) I) (fun (r2 : Int32 × ow_I) => lt (if b292 then true else false) (fun (b314 : Bool) => if r2.1 = bi b314 then lt (if A_minute x r2.2 = A_minute x I + (nI 1) then if bi (A_isOpen x r2.2) = bi (L_open q (A_minute x I + (nI 1)) r2.2) then true else false else false) (fun (b327 : Bool) => if b327 then lt (if b292 then if A_stateOf x (A_openBarrel x I) r2.2 = nI 2 then if A_buyerOf x (A_openBarrel x I) r2.2 = A_leader x I then if A_priceOf x (A_openBarrel x I) r2.2 = A_bid x I then if A_purse x (A_leader x I) r2.2 = b260 - (L_cost q (A_bid x I) r2.2) then if A_sellerCoins x r2.2 = A_sellerCoins x I + (A_bid x I) then if A_houseCoins x r2.2 = A_houseCoins x I + (L_cost q (A_bid x I) r2.2) - (A_bid x I) then true else false else false else false else false else false else false else true) (fun (b349 : Bool) => if b349 then lt (if b292 then true else if A_sellerCoins x r2.2 = A_sellerCoins x I then if A_houseCoins x r2.2 = A_houseCoins x I then true else false else false) (fun (b434 : Bool) => if b434 then lt (if b119.1 then if 0 ≤ A_leader x I then false else if nI 2 ≤ b277 then false else true else false) (fun (b459 : Bool) => lt (if b119.1 then if 0 ≤ A_leader x I then true else if A_returns x (A_openBarrel x I) r2.2 = b277 + (nI 1) then if b459 then if A_stateOf x (A_openBarrel x I) r2.2 = nI 0 then true else false else if A_stateOf x (A_openBarrel x I) r2.2 = nI 3 then true else false else false else true) (fun (b482 : Bool) => if b482 then lt (if L_open q (A_minute x I + (nI 1)) r2.2 then if 0 ≤ A_openBarrel x I then false else true else false) (fun (b524 : Bool) => if b524 then if A_openBarrel x r2.2 = A_queuedBarrel x (nI 0) I then if A_queuedBarrel x (nI 0) I < 0 then if A_queueLength x r2.2 = i_max (nI 0) (A_queueLength x I - (nI 1)) then (true, r2.2) else (false, r2.2) else if A_quiet x r2.2 = 0 then if A_leader x r2.2 = (-1) then if A_bid x r2.2 = (-1) then if A_nextBid x r2.2 = A_reserve x (A_queuedBarrel x (nI 0) I) r2.2 then if A_queueLength x r2.2 = i_max (nI 0) (A_queueLength x I - (nI 1)) then (true, r2.2) else (false, r2.2) else (false, r2.2) else (false, r2.2) else (false, r2.2) else (false, r2.2) else (false, r2.2) else if b119.1 then if A_openBarrel x r2.2 = (-1) then lt (if b459 then true else false) (fun (b626 : Bool) => if A_queueLength x r2.2 = A_queueLength x I + (bi b626) then if b459 then if A_queuedBarrel x (A_queueLength x I) r2.2 = A_openBarrel x I then (true, r2.2) else (false, r2.2) else (true, r2.2) else (false, r2.2)) else (false, r2.2) else if A_openBarrel x r2.2 = A_openBarrel x I then if A_queueLength x r2.2 = A_queueLength x I then if A_openBarrel x I < 0 then (true, r2.2) else if A_bid x r2.2 = b244 then if b119.2 < 0 then if A_leader x r2.2 = A_leader x I then if b119.2 < 0 then if A_quiet x r2.2 = A_quiet x I + (nI 1) then (true, r2.2) else (false, r2.2) else if A_quiet x r2.2 = nI 0 then (true, r2.2) else (false, r2.2) else (false, r2.2) else if A_leader x r2.2 = b119.2 then if b119.2 < 0 then if A_quiet x r2.2 = A_quiet x I + (nI 1) then (true, r2.2) else (false, r2.2) else if A_quiet x r2.2 = nI 0 then (true, r2.2) else (false, r2.2) else (false, r2.2) else (false, r2.2) else (false, r2.2) else (false, r2.2)) else (false, r2.2))) else (false, r2.2)) else (false, r2.2)) else (false, r2.2)) else (false, r2.2)))))))
theorem ltr {α β : Type} {v v' : α} {F : α → β} {P : β → Prop} (e : v = v') (h : P (F v')) : P (lt v F) := by
  subst e; exact h
/-- the end of a minute's recount -/
abbrev mtP (J : ow_I) : Bool × ow_I → Prop := fun r => r.1 = true ∧ r.2 = J
section MTL
variable {x q B : Nat} {I J : ow_I} {f g : Nat → Int32}
/-- what a minute's tail asks, whatever happened -/
def mtH (x q : Nat) (I J : ow_I) (f g : Nat → Int32) : Prop := (A_passMinutes x (nI 1) I).2 = J ∧ rl (x + 1) I f ∧ rl (x + 1) J g ∧ md_V f ∧ md_V g ∧ (I q 0 = f 0 ∧ I q 1 = f 1 ∧ I q 2 = f 2 ∧ I q 3 = f 4) ∧ (J q 0 = f 0 ∧ J q 1 = f 1 ∧ J q 2 = f 2 ∧ J q 3 = f 4) ∧ g 5 = f 5 + nI 1 ∧ A_isOpen x J = M_isOpenIn 0 (f 5 + nI 1) (gm f)
theorem mtH.pm (h : mtH x q I J f g) : (A_passMinutes x (nI 1) I).2 = J := h.1
theorem mtH.hr (h : mtH x q I J f g) : rl (x + 1) I f := h.2.1
theorem mtH.hg (h : mtH x q I J f g) : rl (x + 1) J g := h.2.2.1
theorem mtH.hv (h : mtH x q I J f g) : md_V f := h.2.2.2.1
theorem mtH.hw (h : mtH x q I J f g) : md_V g := h.2.2.2.2.1
theorem mtH.hq (h : mtH x q I J f g) : I q 0 = f 0 ∧ I q 1 = f 1 ∧ I q 2 = f 2 ∧ I q 3 = f 4 := h.2.2.2.2.2.1
theorem mtH.hp (h : mtH x q I J f g) : J q 0 = f 0 ∧ J q 1 = f 1 ∧ J q 2 = f 2 ∧ J q 3 = f 4 := h.2.2.2.2.2.2.1
theorem mtH.m5 (h : mtH x q I J f g) : g 5 = f 5 + nI 1 := h.2.2.2.2.2.2.2.1
theorem mtH.op (h : mtH x q I J f g) : A_isOpen x J = M_isOpenIn 0 (f 5 + nI 1) (gm f) := h.2.2.2.2.2.2.2.2
theorem mt13 (h : mtH x q I J f g) : (if A_minute x (A_passMinutes x (nI 1) I).2 = A_minute x I + nI 1 then if bi (A_isOpen x (A_passMinutes x (nI 1) I).2) = bi (L_open q (A_minute x I + nI 1) (A_passMinutes x (nI 1) I).2) then true else false else false) = true := by
  rw [h.pm, show A_minute x J = g 5 from h.hg.1.2.2, show A_minute x I = f 5 from h.hr.1.2.2, if_pos h.m5, lo_eq h.hp, h.op, if_pos rfl]
theorem mtL (h : mtH x q I J f g) : L_open q (A_minute x I + nI 1) (A_passMinutes x (nI 1) I).2 = M_isOpenIn 0 (f 5 + nI 1) (gm f) := by
  rw [h.pm, lo_eq h.hp, show A_minute x I = f 5 from h.hr.1.2.2]
/-- nothing but the quiet changed -/
theorem mtl_stay (h : mtH x q I J f g) (hs : (A_passMinutes x (nI 1) I).1 = 0) (hc : ∀ j, j ≠ 5 → j ≠ 11 → g j = f j) (ho : M_isOpenIn 0 (f 5 + nI 1) (gm f) = true → 0 ≤ f 8) (h11 : 0 ≤ f 8 → g 11 = f 11 + nI 1) : mtP J (mtl x q I (false, -1)) := by
  have e8 : A_openBarrel x J = A_openBarrel x I := by rw [show A_openBarrel x J = g 8 from h.hg.2.2.2.1.1, show A_openBarrel x I = f 8 from h.hr.2.2.2.1.1, hc 8 (by decide) (by decide)]
  have e10 : A_leader x J = A_leader x I := by rw [show A_leader x J = g 10 from h.hg.2.2.2.1.2.1, show A_leader x I = f 10 from h.hr.2.2.2.1.2.1, hc 10 (by decide) (by decide)]
  have e12 : A_queueLength x J = A_queueLength x I := by rw [show A_queueLength x J = g 12 from h.hg.2.2.1.2.2, show A_queueLength x I = f 12 from h.hr.2.2.1.2.2, hc 12 (by decide) (by decide)]
  have e13 : A_sellerCoins x J = A_sellerCoins x I := by rw [show A_sellerCoins x J = g 13 from h.hg.2.1.2.2.2.1, show A_sellerCoins x I = f 13 from h.hr.2.1.2.2.2.1, hc 13 (by decide) (by decide)]
  have e14 : A_houseCoins x J = A_houseCoins x I := by rw [show A_houseCoins x J = g 14 from h.hg.2.1.2.2.2.2.1, show A_houseCoins x I = f 14 from h.hr.2.1.2.2.2.2.1, hc 14 (by decide) (by decide)]
  have ebd : A_bid x J = A_bid x I := by rw [show A_bid x J = _ from h.hg.2.2.2.1.2.2.1, show A_bid x I = _ from h.hr.2.2.2.1.2.2.1, hc 10 (by decide) (by decide), hc 9 (by decide) (by decide)]
  have eqt : 0 ≤ f 8 → A_quiet x J = A_quiet x I + nI 1 := fun h8 => by
    rw [show A_quiet x J = _ from h.hg.2.2.2.1.2.2.2, show A_quiet x I = _ from h.hr.2.2.2.1.2.2.2, hc 8 (by decide) (by decide), if_neg (nm1 h8), if_neg (nm1 h8), h11 h8]
  unfold mtl
  dsimp only
  refine ltr (P := mtP J) (if_pos (show (-1 : Int32) < 0 by decide)) ?_
  refine ltr (P := mtP J) rfl ?_
  refine ltr (P := mtP J) rfl ?_
  refine ltr (P := mtP J) (if_neg (show ¬ false = true by decide)) ?_
  refine ltr (P := mtP J) rfl ?_
  refine ltr (P := mtP J) (if_neg (show ¬ false = true by decide)) ?_
  rw [if_pos (show (A_passMinutes x (nI 1) I).1 = bi false from hs)]
  refine ltr (P := mtP J) (mt13 h) ?_
  rw [if_pos rfl]
  refine ltr (P := mtP J) (if_neg (show ¬ false = true by decide)) ?_
  rw [if_pos rfl]
  refine ltr (P := mtP J) (v' := true) (by rw [h.pm, if_neg (show ¬ false = true by decide), if_pos e13, if_pos e14]) ?_
  rw [if_pos rfl]
  refine ltr (P := mtP J) (if_neg (show ¬ false = true by decide)) ?_
  refine ltr (P := mtP J) (if_neg (show ¬ false = true by decide)) ?_
  rw [if_pos rfl]
  refine ltr (P := mtP J) (v' := false) (by
    rw [mtL h]
    by_cases c : M_isOpenIn 0 (f 5 + nI 1) (gm f) = true
    · rw [if_pos c, if_pos (show 0 ≤ A_openBarrel x I by rw [show A_openBarrel x I = f 8 from h.hr.2.2.2.1.1]; exact ho c)]
    · rw [if_neg c]) ?_
  rw [if_neg (show ¬ false = true by decide), if_neg (show ¬ false = true by decide), h.pm, if_pos e8, if_pos e12]
  by_cases c : A_openBarrel x I < 0
  · rw [if_pos c]; exact ⟨rfl, rfl⟩
  · rw [if_neg c, if_pos ebd, if_pos (show (-1 : Int32) < 0 by decide), if_pos e10, if_pos (show (-1 : Int32) < 0 by decide), if_pos (eqt (by rw [show A_openBarrel x I = f 8 from h.hr.2.2.2.1.1] at c; exact Int32.not_lt.mp c))]
    exact ⟨rfl, rfl⟩
/-- a nod -/
theorem mtl_nod {y : Nat} (h : mtH x q I J f g) (hi : iv B f) (hs : (A_passMinutes x (nI 1) I).1 = 0) (hy : y < tn (f 6)) (h8 : 0 ≤ f 8) (hc : ∀ j, j ≠ 5 → j ≠ 9 → j ≠ 10 → j ≠ 11 → j ≠ 36 + 5 * y + 4 → g j = f j) (g9 : g 9 = M_bidNext 0 (gm f)) (g10 : g 10 = nI y) (g11 : g 11 = nI 0) : mtP J (mtl x q I (false, nI y)) := by
  have h6 := h.hv.2.1.2.2
  have hny : ¬ nI y < 0 := Int32.not_lt.mpr (nI_ge0 (by omega))
  have hnm : ¬ nI y = -1 := nm1 (nI_ge0 (by omega))
  have e8 : A_openBarrel x J = A_openBarrel x I := by rw [show A_openBarrel x J = g 8 from h.hg.2.2.2.1.1, show A_openBarrel x I = f 8 from h.hr.2.2.2.1.1, hc 8 (by decide) (by decide) (by decide) (by decide) (by omega)]
  have e10 : A_leader x J = nI y := (show A_leader x J = g 10 from h.hg.2.2.2.1.2.1).trans g10
  have e12 : A_queueLength x J = A_queueLength x I := by rw [show A_queueLength x J = g 12 from h.hg.2.2.1.2.2, show A_queueLength x I = f 12 from h.hr.2.2.1.2.2, hc 12 (by decide) (by decide) (by decide) (by decide) (by omega)]
  have e13 : A_sellerCoins x J = A_sellerCoins x I := by rw [show A_sellerCoins x J = g 13 from h.hg.2.1.2.2.2.1, show A_sellerCoins x I = f 13 from h.hr.2.1.2.2.2.1, hc 13 (by decide) (by decide) (by decide) (by decide) (by omega)]
  have e14 : A_houseCoins x J = A_houseCoins x I := by rw [show A_houseCoins x J = g 14 from h.hg.2.1.2.2.2.2.1, show A_houseCoins x I = f 14 from h.hr.2.1.2.2.2.2.1, hc 14 (by decide) (by decide) (by decide) (by decide) (by omega)]
  have np : A_nextBid x I = M_bidNext 0 (gm f) := np_eq (J := gm f) (m := 0) h.hr h.hv h8
  have ebd : A_bid x J = A_nextBid x I := by rw [show A_bid x J = _ from h.hg.2.2.2.1.2.2.1, g10, if_neg hnm, g9, np]
  have eqt : A_quiet x J = nI 0 := by rw [show A_quiet x J = _ from h.hg.2.2.2.1.2.2.2, hc 8 (by decide) (by decide) (by decide) (by decide) (by omega), if_neg (nm1 h8), g11]
  unfold mtl
  dsimp only
  refine ltr (P := mtP J) (if_neg hny) ?_
  refine ltr (P := mtP J) rfl ?_
  refine ltr (P := mtP J) rfl ?_
  refine ltr (P := mtP J) (if_neg (show ¬ false = true by decide)) ?_
  refine ltr (P := mtP J) rfl ?_
  refine ltr (P := mtP J) (if_neg (show ¬ false = true by decide)) ?_
  rw [if_pos (show (A_passMinutes x (nI 1) I).1 = bi false from hs)]
  refine ltr (P := mtP J) (mt13 h) ?_
  rw [if_pos rfl]
  refine ltr (P := mtP J) (if_neg (show ¬ false = true by decide)) ?_
  rw [if_pos rfl]
  refine ltr (P := mtP J) (v' := true) (by rw [h.pm, if_neg (show ¬ false = true by decide), if_pos e13, if_pos e14]) ?_
  rw [if_pos rfl]
  refine ltr (P := mtP J) (if_neg (show ¬ false = true by decide)) ?_
  refine ltr (P := mtP J) (if_neg (show ¬ false = true by decide)) ?_
  rw [if_pos rfl]
  have o8 : 0 ≤ A_openBarrel x I := by rw [show A_openBarrel x I = f 8 from h.hr.2.2.2.1.1]; exact h8
  refine ltr (P := mtP J) (v' := false) (by
    rw [mtL h]
    by_cases c : M_isOpenIn 0 (f 5 + nI 1) (gm f) = true
    · rw [if_pos c, if_pos o8]
    · rw [if_neg c]) ?_
  rw [if_neg (show ¬ false = true by decide), if_neg (show ¬ false = true by decide), h.pm, if_pos e8, if_pos e12, if_neg (Int32.not_lt.mpr o8), if_pos ebd, if_neg hny, if_pos e10, if_neg hny, if_pos eqt]
  exact ⟨rfl, rfl⟩
/-- a barrel opened -/
theorem mtl_open (h : mtH x q I J f g) (hs : (A_passMinutes x (nI 1) I).1 = 0) (ho : M_isOpenIn 0 (f 5 + nI 1) (gm f) = true) (h8 : f 8 = -1) (h1 : tn (f 12) = 0 → ∀ j, j ≠ 5 → g j = f j)
    (h2 : ¬ tn (f 12) = 0 → (∀ j, j < 8 → j ≠ 5 → g j = f j) ∧ g 8 = f 16 ∧ g 10 = -1 ∧ g 11 = nI 0 ∧ g 12 = nI (tn (f 12) - 1) ∧ g 13 = f 13 ∧ g 14 = f 14) : mtP J (mtl x q I (false, -1)) := by
  have h12 := h.hv.2.2.2.2.2.1
  have o8 : A_openBarrel x I = -1 := (show A_openBarrel x I = f 8 from h.hr.2.2.2.1.1).trans h8
  have eQ : A_queueLength x I = f 12 := h.hr.2.2.1.2.2
  have e13 : A_sellerCoins x J = A_sellerCoins x I := by
    rw [show A_sellerCoins x J = g 13 from h.hg.2.1.2.2.2.1, show A_sellerCoins x I = f 13 from h.hr.2.1.2.2.2.1]
    by_cases c : tn (f 12) = 0
    · exact h1 c 13 (by decide)
    · exact (h2 c).2.2.2.2.2.1
  have e14 : A_houseCoins x J = A_houseCoins x I := by
    rw [show A_houseCoins x J = g 14 from h.hg.2.1.2.2.2.2.1, show A_houseCoins x I = f 14 from h.hr.2.1.2.2.2.2.1]
    by_cases c : tn (f 12) = 0
    · exact h1 c 14 (by decide)
    · exact (h2 c).2.2.2.2.2.2
  have qb : A_queuedBarrel x (nI 0) I = if tn (f 12) = 0 then -1 else f 16 := by
    unfold A_queuedBarrel
    rw [if_neg (show ¬ nI 0 < 0 by decide), show I (x + 1) 12 = f 12 from h.hr.2.2.1.2.2]
    have e12 := (nI_tn h12.1).symm
    by_cases c : tn (f 12) = 0
    · rw [if_pos c, if_neg (by rw [e12, c]; decide)]
    · rw [if_neg c, if_pos (by rw [e12]; exact (nI_lt' (by decide) (by omega)).mpr (by omega))]
      exact h.hr.2.2.2.2.2.1 0 (by omega)
  unfold mtl
  dsimp only
  refine ltr (P := mtP J) (if_pos (show (-1 : Int32) < 0 by decide)) ?_
  refine ltr (P := mtP J) rfl ?_
  refine ltr (P := mtP J) rfl ?_
  refine ltr (P := mtP J) (if_neg (show ¬ false = true by decide)) ?_
  refine ltr (P := mtP J) rfl ?_
  refine ltr (P := mtP J) (if_neg (show ¬ false = true by decide)) ?_
  rw [if_pos (show (A_passMinutes x (nI 1) I).1 = bi false from hs)]
  refine ltr (P := mtP J) (mt13 h) ?_
  rw [if_pos rfl]
  refine ltr (P := mtP J) (if_neg (show ¬ false = true by decide)) ?_
  rw [if_pos rfl]
  refine ltr (P := mtP J) (v' := true) (by rw [h.pm, if_neg (show ¬ false = true by decide), if_pos e13, if_pos e14]) ?_
  rw [if_pos rfl]
  refine ltr (P := mtP J) (if_neg (show ¬ false = true by decide)) ?_
  refine ltr (P := mtP J) (if_neg (show ¬ false = true by decide)) ?_
  rw [if_pos rfl]
  refine ltr (P := mtP J) (v' := true) (by rw [mtL h, if_pos ho, o8, if_neg i_m1]) ?_
  rw [if_pos rfl, h.pm, show A_openBarrel x J = g 8 from h.hg.2.2.2.1.1, show A_queueLength x J = g 12 from h.hg.2.2.1.2.2, qb, eQ]
  by_cases c : tn (f 12) = 0
  · have e12 : f 12 = nI 0 := by rw [← nI_tn h12.1, c]
    rw [if_pos c, h1 c 8 (by decide), if_pos h8, if_pos (show (-1 : Int32) < 0 by decide), h1 c 12 (by decide), e12, if_pos (show nI 0 = i_max (nI 0) (nI 0 - nI 1) by decide)]
    exact ⟨rfl, rfl⟩
  · obtain ⟨g7, g8, g10, g11, g12, -, -⟩ := h2 c
    have hq0 : 0 ≤ f 16 ∧ tn (f 16) < tn (f 7) ∧ f (66 + 15 * tn (f 16) + 12) = 0 := q0_V (J := gm f) (m := 0) h.hv c
    have en : f 12 = nI (tn (f 12)) := (nI_tn h12.1).symm
    have emx : nI (tn (f 12) - 1) = i_max (nI 0) (nI (tn (f 12)) - nI 1) := by
      rw [nI_sb (by omega)]
      unfold i_max
      by_cases d : tn (f 12) - 1 = 0
      · rw [d]; rfl
      · rw [if_pos ((nI_lt' (by decide) (by omega)).mpr (by omega))]
    have hgk : tn (g 8) < tn (g 7) := by rw [g8, g7 7 (by decide) (by decide)]; exact hq0.2.1
    have el : A_leader x J = -1 := (show A_leader x J = g 10 from h.hg.2.2.2.1.2.1).trans g10
    have eb : A_bid x J = -1 := by rw [show A_bid x J = _ from h.hg.2.2.2.1.2.2.1, g10, if_pos rfl]
    have eq0 : A_quiet x J = 0 := by
      rw [show A_quiet x J = _ from h.hg.2.2.2.1.2.2.2, g8, if_neg (nm1 hq0.1), g11]; rfl
    have enb : A_nextBid x J = A_reserve x (f 16) J := by
      unfold A_nextBid K_nextPrice A_reserve
      rw [show J (x + 1) 13 = g 8 from h.hg.2.2.2.1.1, g8, if_neg (nm1 hq0.1), show J (x + 1) 15 = g 10 from h.hg.2.2.2.1.2.1, g10, if_pos rfl]
    rw [if_neg c, if_pos g8, if_neg (i_ge hq0.1), if_pos eq0, if_pos el, if_pos eb, if_pos enb, g12, en, tn_nI (by omega), if_pos emx]
    exact ⟨rfl, rfl⟩
end MTL
