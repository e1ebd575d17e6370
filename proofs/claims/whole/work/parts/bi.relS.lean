/-! THE CHANGES: both act alike -/
theorem ns0 {n : Nat} {P : Prop} (h : n + 1 = 0) : P := absurd h (Nat.succ_ne_zero n)
section RRC
variable {x m B B' : Nat} {I I' J J' : ow_I}
theorem RR_act (h : RR x m B I J) (hB : B ≤ B') (hst : st (x + 1) m B' I' J') (hk : k_V (x + 1) I') (hr : ∀ b, (b < x + 1 ∨ x + 52 ≤ b) → (b = x + 561 → False) → I' b = I b) (eJ : ∀ b, b ≠ m + 1 → J' b = J b) (eC : ∀ j, 370 ≤ j → J' (m + 1) j = J (m + 1) j) : RR x m B' I' J' :=
  RR_mkt h hB hst hk (kV_eq h.1.1.2.1 (fun b h1 h2 => hr b (by omega) (by omega))) (fun b hb => hr b (by omega) (by omega)) eJ eC
theorem keepO (h : RR x m B I J) : 0 ≤ J m 1 ∧ 0 ≤ J m 2 := by
  obtain ⟨o, k, g1, g2, g3, g4, -⟩ := h.2.2.1
  exact ⟨by rw [g1]; exact nI_ge0 (by omega), by rw [g3]; exact nI_ge0 (by omega)⟩
theorem keep18 (h : RR x m B I J) : M_keep m 0 J m 18 = J m 18 := fr_keep (keepO h).1 (keepO h).2 (by decide) (by decide)
theorem keepC (h : RR x m B I J) {j : Nat} (hj : j < 370) : M_keep m 0 J (m + 1) j = J (m + 1) j := keep_0 (keepO h).1 (keepO h).2 (Or.inl rfl) (by omega)
theorem remR (h : RR x m B I J) {b : Nat} (hb : b < x + 103 ∨ x + 513 ≤ b) : H_remember (x + 103) (x + 1) I b = I b := rr_rem h.1.1 hb
theorem open_c (e : ∀ j, j < 370 → J' (m + 1) j = J (m + 1) j) : M_isOpenNow m J' = M_isOpenNow m J := by
  unfold M_isOpenNow M_isOpenIn
  rw [e 0 (by omega), e 1 (by omega), e 5 (by omega)]
theorem reas_c {b : Nat} (hv : md_V (J (m + 1))) (hb : b < 6) (e : ∀ j, j < 370 → J' (m + 1) j = J (m + 1) j) : M_reasonAgainst m b J' = M_reasonAgainst m b J := by
  have h8 := fun z => mdV_8 hv z
  unfold M_reasonAgainst
  rw [open_c e, e 8 (by omega), e 10 (by omega)]
  by_cases c : 0 ≤ J (m + 1) 8
  · have := h8 c
    unfold M_costOfPrice M_bidNext M_of M_ofBarrel
    rw [e 4 (by omega), e 8 (by omega), e 10 (by omega), e 9 (by omega), e 3 (by omega), e _ (by omega), e _ (by omega)]
  · rw [if_neg c, if_neg c]
theorem reas_or {b : Nat} : M_reasonAgainst m b J = 0 ∨ ¬ M_reasonAgainst m b J ≤ 0 := by
  have key : ∀ y : Int32, y = nI 0 ∨ y = nI 1 ∨ y = nI 2 ∨ y = nI 3 ∨ y = nI 4 → y = 0 ∨ ¬ y ≤ 0 := by
    intro y hy
    rcases hy with rfl | rfl | rfl | rfl | rfl
    · exact Or.inl rfl
    · exact Or.inr (by decide)
    · exact Or.inr (by decide)
    · exact Or.inr (by decide)
    · exact Or.inr (by decide)
  apply key
  unfold M_reasonAgainst
  split
  · split
    · split
      · exact Or.inr (Or.inr (Or.inr (Or.inl rfl)))
      · split
        · exact Or.inl rfl
        · exact Or.inr (Or.inr (Or.inr (Or.inr rfl)))
    · exact Or.inr (Or.inr (Or.inl rfl))
  · exact Or.inr (Or.inl rfl)
theorem rs_t : A_requireState true I = 0 := rfl
theorem rs_f : A_requireState false I = 2 := rfl
theorem nI_ex {b : Int32} {n : Nat} (h : 0 ≤ b) (hn : tn b < n) : ∃ c : Nat, c < n ∧ b = nI c := ⟨tn b, hn, (nI_tn h).symm⟩
theorem r_nod {b : Int32} (h : RR x m B I J) : an x m B [3, 2] (A_nod x b I).1 (A_nod x b I).2.1 (M_nod m b J).1 (A_nod x b I).2.2 (M_nod m b J).2 := by
  rcases buy_or (b := b) h with ⟨q2, q3, q5, q6⟩ | ⟨q2, q3⟩
  · have h1 := RR_18 (y := nI 0) h
    have hs := h1.2.1
    have e7 : ow_u J m 18 (nI 0) (m + 1) = J (m + 1) := e18 (by omega)
    have z18 : ow_u J m 18 (nI 0) m 18 = nI 0 := ow_u_s _ _ _ _
    rw [← e7] at q6
    simp only [A_nod, M_nod, lt_eq, q2, q3, if_true, rs_t, rs_f]
    rw [if_neg (show ¬ false = true by decide)]
    generalize ow_u J m 18 (nI 0) = J1 at h1 hs q6 z18 ⊢
    obtain ⟨c, hc, rfl⟩ := nI_ex q5 q6
    have hv := hs.2.1
    have h6 := hv.2.1.2.2
    rw [tn_nI (by omega), ref_eq hs.1 hs.2.1 hs.2.2 hc]
    rcases reas_or (m := m) (b := c) (J := J1) with r | r
    · rw [if_pos r, if_pos (by rw [r]; decide)]
      have h2 := RR_rem h1
      have hs2 := h2.2.1
      have e0 : ∀ j, j < 370 → M_keep m 0 J1 (m + 1) j = J1 (m + 1) j := fun j hj => keepC h1 hj
      have r2 : M_reasonAgainst m c (M_keep m 0 J1) = 0 := by rw [reas_c hv (by omega) e0, r]
      have hc2 : c < tn (M_keep m 0 J1 (m + 1) 6) := by rw [e0 6 (by omega)]; exact hc
      have h8 : 0 ≤ M_keep m 0 J1 (m + 1) 8 := by
        rw [e0 8 (by omega)]
        unfold M_reasonAgainst at r
        split at r
        · split at r
          · assumption
          · exact absurd r (by decide)
        · exact absurd r (by decide)
      have f := F_nod (m := m) (I := M_keep m 0 J1) (show c < 6 by omega)
      have hkV := h2.1.1.1
      have g := rl_nod hs2.1 hs2.2.1 h8 hc2
      refine ⟨RR_act h2 (Nat.le_refl _) ⟨g, V_nodNow hs2.2.1 h8 hc2, iv_nod hs2.2.1 hs2.2.2 h8 hc2 r2⟩ (kV_nod hkV) (fun q hq _ => rr_nod (by omega) hkV) f.1 (fun j hj => f.2 j (Or.inl hj)), ?_, fun _ => ?_⟩
      · rw [f.1 m (by omega), keep18 h1, z18]
        rfl
      · have e14 := g.2.2.2.1.2.2.1
        have e10 : (M_nodNow m c (M_keep m 0 J1)).2 (m + 1) 10 = nI c := by
          simp only [M_nodNow, M_put, lt_eq]
          simp (disch := omega) only [u_one, if_neg, if_true]
        rw [e10, if_neg (nm1 (nI_ge0 (by omega)))] at e14
        rw [e14]
        simp only [M_nodNow, lt_eq]
    · rw [if_neg (fun z => r (by rw [z]; decide)), if_neg r, if_neg (show ¬ (2 : Nat) = 0 by decide)]
      exact ⟨RR_18 h1, ow_u_s _ _ _ _, fun z => ns0 z⟩
  · simp only [A_nod, M_nod, lt_eq, q2, q3, if_true]
    rw [if_neg (by decide)]
    exact ⟨RR_18 (RR_18 h), ow_u_s _ _ _ _, fun z => ns0 z⟩
theorem r_passMinutes {n : Int32} (h : RR x m B I J) (hB : B < 2 ^ 29) : an x m (B + 200) [1] (A_passMinutes x n I).1 (A_passMinutes x n I).2.1 (M_passMinutes m n J).1 (A_passMinutes x n I).2.2 (M_passMinutes m n J).2 := by
  have h1 := RR_18 (y := nI 0) h
  have z18 : ow_u J m 18 (nI 0) m 18 = nI 0 := ow_u_s _ _ _ _
  simp only [A_passMinutes, M_passMinutes, lt_eq]
  generalize ow_u J m 18 (nI 0) = J1 at h1 z18 ⊢
  have up : ∀ {I J : ow_I}, RR x m B I J → RR x m (B + 200) I J := fun g => RR_act g (by omega) (st_of g.2.1 (by omega) (fun _ _ _ => rfl) (fun _ _ => rfl)) g.1.1.1 (fun _ _ _ => rfl) (fun _ _ => rfl) (fun _ _ => rfl)
  rcases rng_or (v := n) (lo := nI 1) (hi := nI 200) (I := I) (J := J1) with ⟨q1, q2, q3, q4⟩ | ⟨q1, q2⟩
  · simp only [q1, q2, if_true]
    have n0 : 0 ≤ n := by
      rw [Int32.le_iff_toInt_le] at q3 ⊢
      exact Int.le_trans (by decide) q3
    obtain ⟨c, hc, rfl⟩ := nI_ex n0 (tn_lt n)
    have c2 := (nI_leI hc (by decide)).mp q4
    rw [tn_nI hc]
    have h2 := RR_rem h1
    obtain ⟨g1, g2⟩ := st_let (n2 := c) h2.2.1 (by omega)
    have f := F_passAll (m := m) (n := c) (I := M_keep m 0 J1) h2.2.1.2.1
    refine ⟨RR_act h2 (by omega) ⟨g1.1, g1.2.1, iv_m g1.2.2 (by omega)⟩ (kV_let h2.1.1.1) (fun q hq _ => rr_let (by omega) h2.1.1.1) f.1 (fun j hj => f.2 j (Or.inl hj)), ?_, fun _ => g2⟩
    rw [f.1 m (by omega), keep18 h1, z18]
    rfl
  · simp only [q1, q2]
    rw [if_neg (by decide), if_neg (by decide)]
    exact ⟨up (RR_18 h1), ow_u_s _ _ _ _, fun z => ns0 z⟩
theorem wait_c {b : Nat} (hb : b < 20) (e : ∀ j, j < 370 → J' (m + 1) j = J (m + 1) j) : M_isWaiting m b J' = M_isWaiting m b J := by
  unfold M_isWaiting M_ofBarrel
  rw [e _ (by omega)]
theorem cs_c {b e : Nat} (hb : b < 20) (ec : ∀ j, j < 370 → J' (m + 1) j = J (m + 1) j) : M_canSplit m b e J' = M_canSplit m b e J := by
  unfold M_canSplit
  rw [wait_c hb ec]
  unfold M_ofBarrel
  rw [ec _ (by omega), ec 7 (by omega)]
theorem r_split {b e : Int32} (h : RR x m B I J) : an x m B [3, 1, 2] (A_split x b e I).1 (A_split x b e I).2.1 (nI (M_split m b e J).1) (A_split x b e I).2.2 (M_split m b e J).2 := by
  rcases bar_or (b := b) h with ⟨q1, -, q3, q4, q5, q6⟩ | ⟨q1, -, q3⟩
  · have h1 := RR_18 (y := nI 0) h
    have hs := h1.2.1
    have e7 : ow_u J m 18 (nI 0) (m + 1) = J (m + 1) := e18 (by omega)
    have z18 : ow_u J m 18 (nI 0) m 18 = nI 0 := ow_u_s _ _ _ _
    have q4 : M_isBarrel m b (ow_u J m 18 (nI 0)) = true := by
      unfold M_isBarrel
      rw [e7]
      exact q4
    rw [← e7] at q6
    simp only [A_split, M_split, lt_eq, q1, q3, if_true]
    rw [if_neg (show ¬ false = true by decide)]
    generalize ow_u J m 18 (nI 0) = J1 at h1 hs q4 q6 z18 ⊢
    have h7 := hs.2.1.2.2.1.2
    rcases rng_or (v := e) (lo := nI 1) (hi := nI 8) (I := I) (J := J1) with ⟨p1, p2, p3, p4⟩ | ⟨p1, p2⟩
    · simp only [p1, p2, if_true]
      have n0 : 0 ≤ e := by
        rw [Int32.le_iff_toInt_le] at p3 ⊢
        exact Int.le_trans (by decide) p3
      obtain ⟨c, hc, rfl⟩ := nI_ex n0 (tn_lt e)
      have c1 := (nI_leI (by decide) hc).mp p3
      have c2 := (nI_leI hc (by decide)).mp p4
      rw [tn_nI hc, cut_eq hs.1 hs.2.1 q4 ⟨c1, hc⟩]
      obtain ⟨d, hd, rfl⟩ := nI_ex q5 q6
      rw [tn_nI (by omega)]
      by_cases g : M_canSplit m d c J1 = true
      · rw [if_pos g, g, if_pos rs_t]
        have h2 := RR_rem h1
        have e0 : ∀ j, j < 370 → M_keep m 0 J1 (m + 1) j = J1 (m + 1) j := fun j hj => keepC h1 hj
        have g2 : M_canSplit m d c (M_keep m 0 J1) = true := by rw [cs_c (by omega) e0, g]
        have d2 : d < tn (M_keep m 0 J1 (m + 1) 7) := by rw [e0 7 (by omega)]; exact hd
        have b2 : M_isBarrel m (nI d) (M_keep m 0 J1) = true := by
          unfold M_isBarrel at q4 ⊢
          rw [e0 7 (by omega)]
          exact q4
        have k2 : K_canCut (x + 1) (nI d) (nI c) (H_remember (x + 103) (x + 1) I) = true := by
          rw [cut_eq h2.2.1.1 h2.2.1.2.1 b2 ⟨c1, hc⟩, tn_nI (by omega), g2]
        obtain ⟨s1, s2⟩ := st_cut h2.2.1 d2 g2 ⟨c1, c2⟩ k2
        have f : md_F m (M_keep m 0 J1) (M_splitNow m d c (M_keep m 0 J1)).2 := by
          have hh := cS7 (m := m) (b := d) (e := c) (I := M_keep m 0 J1) h2.2.1.2.1 g2
          refine F_splitNow h2.2.1.2.1 d2 hh ?_
          unfold M_canSplit at g2
          split at g2
          · split at g2
            · exact absurd g2 (by decide)
            · rename_i w
              have := (lt_tn (i_lt w) (nI_ge0 hc)).2
              rw [tn_nI hc] at this
              exact this
          · exact absurd g2 (by decide)
        refine ⟨RR_act h2 (Nat.le_refl _) s1 (kV_cut h2.1.1.1) (fun q hq _ => rr_cut (by omega) h2.1.1.1) f.1 (fun j hj => f.2 j (Or.inl hj)), ?_, fun _ => s2⟩
        rw [f.1 m (by omega), keep18 h1, z18]
        rfl
      · have gf : M_canSplit m d c J1 = false := by cases hq : M_canSplit m d c J1 with | true => exact absurd hq g | false => rfl
        rw [gf, rs_f, if_neg (show ¬ (2 : Nat) = 0 by decide), if_neg (show ¬ false = true by decide)]
        exact ⟨RR_18 h1, ow_u_s _ _ _ _, fun z => ns0 z⟩
    · simp only [p1, p2]
      rw [if_neg (show ¬ (1 : Nat) = 0 by decide), if_neg (show ¬ false = true by decide)]
      exact ⟨RR_18 h1, ow_u_s _ _ _ _, fun z => ns0 z⟩
  · simp only [A_split, M_split, lt_eq, q1, q3, if_true]
    rw [if_neg (by decide)]
    exact ⟨RR_18 (RR_18 h), ow_u_s _ _ _ _, fun z => ns0 z⟩
end RRC
