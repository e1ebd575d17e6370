/-! WITHDRAWALS -/
section WDR
variable {x q B b : Nat} {I : ow_I} {f g : Nat → Int32}
theorem isB_t (hv : md_V f) (hb : b < tn (f 7)) : M_isBarrel 0 (nI b) (gm f) = true := by
  unfold M_isBarrel
  have q := nI_lt_of hv.2.2.1.1 hb (by have := hv.2.2.1.2; omega)
  rw [if_neg (i_ge q.1), if_neg (show ¬ gm f (0 + 1) 7 ≤ nI b from Int32.not_le.mpr q.2)]
theorem isW_e (hr : rl (x + 1) I f) (hv : md_V f) (hb : b < tn (f 7)) : K_isWaiting (x + 1) (nI b) I = M_isWaiting 0 b (gm f) := by
  have := wait_eq (J := gm f) (m := 0) hr hv (isB_t hv hb)
  rw [tn_nI (by have := hv.2.2.1.2; omega)] at this
  exact this
theorem isW_t : M_isWaiting 0 b (gm f) = true ↔ f (66 + 15 * b + 12) = 0 := by
  unfold M_isWaiting
  constructor
  · intro h
    by_cases c : f (66 + 15 * b + 12) = 0
    · exact c
    · rw [if_neg (show ¬ M_ofBarrel 0 b 12 (gm f) = 0 from c)] at h; exact absurd h (by decide)
  · intro h; exact if_pos h
theorem act_wdr (h : LI B x q I) (hb : b < tn (I (x + 1) 10)) : LI B x q (L_withdraw x (nI b) I).2 ∧ (L_withdraw x (nI b) I).2 (x + 1) 10 = I (x + 1) 10 ∧ (A_stateOf x (nI b) I = 0 → (L_withdraw x (nI b) I).1 = A_queueLength x I - nI 1 ∧ A_stateOf x (nI b) (L_withdraw x (nI b) I).2 = nI 3) ∧ (¬ A_stateOf x (nI b) I = 0 → L_withdraw x (nI b) I = (-100, I)) := by
  obtain ⟨f, hr, hv, hi, hl, hq, hop⟩ := li_to h
  have hX := h.1
  have h6 := hv.2.1.2.2
  have h7 := hv.2.2.1.2
  have h12 := hv.2.2.2.2.2.1
  have hb' : b < tn (f 7) := by rw [← hr.2.2.1.2.1]; exact hb
  have tb : tn (nI b) = b := tn_nI (by omega)
  have eS : A_stateOf x (nI b) I = f (66 + 15 * b + 12) := by
    unfold A_stateOf
    rw [tb]
    exact (rl_bar hr hb').2.2.1
  rw [eS]
  by_cases c : f (66 + 15 * b + 12) = 0
  · have hw : M_isWaiting 0 b (gm f) = true := isW_t.mpr c
    have eK : K_isWaiting (x + 1) (nI b) I = true := (isW_e hr hv hb').trans hw
    have eN : L_withdraw x (nI b) I = (K_takeAway (x + 1) (nI b) (H_remember (x + 103) (x + 1) I) (x + 1) 12, K_takeAway (x + 1) (nI b) (H_remember (x + 103) (x + 1) I)) := by
      unfold L_withdraw A_withdraw
      rw [eK]
      rfl
    obtain ⟨hst, hans⟩ := st_wdr (a := x + 1) (m := 0) (B := B) (b := b) (I := H_remember (x + 103) (x + 1) I) (J := gm f) ⟨rl_rem hX hr hv, hv, hi⟩ hb' hw
    obtain ⟨p, hp, hpb⟩ := V_wait (I := gm f) (m := 0) hv hb' hw
    have hd := hv.2.2.2.2.2.2.2.1
    have hne : ∀ j, j < p → ¬ gm f (0 + 1) (16 + j) = nI b := fun j hj z => by
      have := hd j p (by change p < tn (f 12) at hp; omega) hp (z.trans hpb.symm)
      omega
    have d := fun k => @dq_cells 0 b p (gm f) h12.1 h12.2 hp hpb hne k
    change p < tn (f 12) at hp
    have ce : ∀ j, (M_withdrawNow 0 b (gm f)).2 (0 + 1) j = if j = 66 + 15 * b + 12 then nI 3 else if j = 12 then nI (tn (f 12) - 1) else if 16 + p ≤ j ∧ j < 16 + (tn (f 12) - 1) then f (j + 1) else f j := fun j => by
      simp only [M_withdrawNow, M_putBarrel, lt_eq]
      rw [u_one, d]
      rfl
    have ea : (M_withdrawNow 0 b (gm f)).1 = nI (tn (f 12) - 1) := by
      show (M_withdrawNow 0 b (gm f)).2 (0 + 1) 12 = _
      rw [ce, if_neg (by omega), if_pos rfl]
    obtain ⟨sr, sv, si⟩ := hst
    rw [eN]
    generalize (M_withdrawNow 0 b (gm f)).2 (0 + 1) = g at ce sr sv si
    have s0 : ∀ j, (j < 12 ∨ (12 < j ∧ j < 16) ∨ (36 ≤ j ∧ j < 66)) → g j = f j := fun j hj => by rw [ce]; simp (disch := omega) only [if_neg]
    have bk : ∀ k, k < 20 → ∀ w, w ≠ 12 → w < 15 → g (66 + 15 * k + w) = f (66 + 15 * k + w) := fun k hk w h1 hw => by rw [ce]; simp (disch := omega) only [if_neg]
    have bn : ∀ k, k < 20 → k ≠ b → g (66 + 15 * k + 12) = f (66 + 15 * k + 12) := fun k hk hne => by rw [ce]; simp (disch := omega) only [if_neg]
    have b12 : g (66 + 15 * b + 12) = nI 3 := by rw [ce, if_pos rfl]
    have hlg : lgf (1000 + 40 * B) g := lgf_s hv hl (s0 6 (by omega)) (s0 7 (by omega)) (s0 13 (by omega)) (s0 14 (by omega)) (s0 15 (by omega)) (fun y hy => ⟨s0 _ (by omega), s0 _ (by omega)⟩) (fun k hk => ⟨bk k hk 13 (by decide) (by decide), bk k hk 14 (by decide) (by decide)⟩)
      (fun k hk => by
        by_cases e : k = b
        · subst e; rw [b12, c]; exact ⟨fun z => absurd z (by decide), fun z => absurd z (by decide)⟩
        · rw [bn k hk e])
      (fun k hk hs => by
        by_cases e : k = b
        · subst e; rw [b12] at hs; rcases hs with hs | hs <;> exact absurd hs (by decide)
        · rw [bn k (by omega) e] at hs
          rw [bk k (by omega) 11 (by decide) (by decide)]
          exact hl.2.2.2.2.2.1 k hk hs)
    refine ⟨li_next hX (fun z hz => rr_away (by omega) (kV_rem hX)) (kV_away (kV_rem hX)) sr sv si hlg ⟨s0 0 (by omega), s0 1 (by omega), s0 2 (by omega), s0 4 (by omega)⟩ hq h.2.2.2.2.1 h.2.2.2.2.2.1 (op_c (s0 0 (by omega)) (s0 1 (by omega)) (s0 5 (by omega)) (s0 8 (by omega)) hop), ?_, fun _ => ⟨?_, ?_⟩, fun z => absurd c z⟩
    · show K_takeAway (x + 1) (nI b) (H_remember (x + 103) (x + 1) I) (x + 1) 10 = I (x + 1) 10
      rw [sr.2.2.1.2.1, hr.2.2.1.2.1]; exact s0 7 (by omega)
    · show K_takeAway (x + 1) (nI b) (H_remember (x + 103) (x + 1) I) (x + 1) 12 = I (x + 1) 12 - nI 1
      rw [hans, ea, hr.2.2.1.2.2, ← nI_sb (by omega), nI_tn h12.1]
    · show K_takeAway (x + 1) (nI b) (H_remember (x + 103) (x + 1) I) (x + 1 + 11 + 2 * tn (nI b)) 7 = nI 3
      rw [tb, (rl_bar sr (b := b) (by rw [s0 7 (by omega)]; exact hb')).2.2.1]
      exact b12
  · have eK : K_isWaiting (x + 1) (nI b) I = false := by
      rw [isW_e hr hv hb']
      exact Bool.eq_false_iff.mpr (fun z => c (isW_t.mp z))
    have eN : L_withdraw x (nI b) I = (-100, I) := by
      unfold L_withdraw A_withdraw
      rw [eK]
      rfl
    rw [eN]
    exact ⟨h, rfl, fun z => absurd z c, fun _ => rfl⟩
end WDR
