/-! THE FORECAST -/
section FOR
variable {x q B b : Nat} {I J : ow_I} {f g : Nat → Int32}
theorem li_sc (h : LI B x q I) (hJ : ∀ z, z < x + 52 ∨ x + 103 ≤ z → J z = I z) (hk : k_V (x + 52) J) : LI B x q J := by
  obtain ⟨f, hr, hv, hi, hl, hq, hop⟩ := li_to h
  obtain ⟨h1, h2, h3, h4, h5, h6⟩ := h.1
  have hX : au_V x J := ⟨kV_eq h1 (fun z z1 z2 => hJ z (by omega)), hk, fun i hi => kV_eq (h3 i hi) (fun z z1 z2 => hJ z (by omega)), fun i hi => kV_eq (h4 i hi) (fun z z1 z2 => hJ z (by omega)), by rw [hJ _ (by omega)]; exact h5, by rw [hJ _ (by omega)]; exact h6⟩
  have hx := h.2.2.2.2.1
  exact li_of hX (rl_I hr hv (fun z z1 z2 => hJ z (by omega)) (fun _ _ => rfl)) hv hi hl (by rw [hJ q (by omega)]; exact hq) hx h.2.2.2.2.2.1 hop
theorem pit_s (m : Nat) : ∀ (n : Nat) (J : ow_I), pit m (n + 1) J = M_passOne m (pit m n J) := by
  intro n
  induction n with
  | zero => intro J; rfl
  | succ n ih => intro J; show pit m (n + 1) (M_passOne m J) = _; rw [ih]; rfl
/-- the scratch after n minutes -/
theorem sc_pass {n B : Nat} (hs : st (x + 52) 0 B I (pit 0 n (gm f))) (hB : B < 2 ^ 28) : st (x + 52) 0 (B + 1) (K_letPass (x + 52) 1 I).2 (pit 0 (n + 1) (gm f)) := by
  have := (st_let (a := x + 52) (m := 0) (B := B) (n2 := 1) hs (by omega)).1
  rw [pass_it.1] at this
  rw [pit_s]
  exact this
theorem sc_cp (h : LI B x q I) (hr : rl (x + 1) I f) (hv : md_V f) (hi : iv B f) : st (x + 52) 0 B (K_copyFrom (x + 52) (x + 1) I) (pit 0 0 (gm f)) := ⟨rl_cp hr hv (by omega), hv, hi⟩
theorem fs_st (h : LI B x q I) (hr : rl (x + 1) I f) (hv : md_V f) (hi : iv B f) {n : Nat} (hn : n ≤ 600) : st (x + 52) 0 (B + n) (A_foresee x (I (x + 1) 2) n I) (pit 0 n (gm f)) := by
  have h0 := rl_cp (a := x + 52) hr hv (by omega)
  have hB := h.2.2.2.2.2.1
  have e : ow_u (K_copyFrom (x + 52) (x + 1) I) (x + 52) 2 (I (x + 1) 2) = K_copyFrom (x + 52) (x + 1) I := by
    funext a k
    by_cases c : a = x + 52
    · subst c
      by_cases d : k = 2
      · subst d
        rw [ow_u_s, h0.2.1.2.1, hr.2.1.2.1]
      · rw [ow_u_k _ _ _ _ d]
    · rw [ow_u_a _ _ _ _ c]
  have hl := (st_let (a := x + 52) (m := 0) (B := B) (n2 := n) (I := K_copyFrom (x + 52) (x + 1) I) (J := gm f) ⟨h0, hv, hi⟩ (by omega)).1
  rw [pass_it.1] at hl
  have : A_foresee x (I (x + 1) 2) n I = (K_letPass (x + 52) n (K_copyFrom (x + 52) (x + 1) I)).2 := by
    show (K_letPass (x + 52) n (ow_u (K_copyFrom (x + 52) (x + 1) I) (x + 52) 2 (I (x + 1) 2))).2 = _
    rw [e]
  rw [this]
  exact hl
/-- the first minute in which the barrel is sold -/
def sld (f : Nat → Int32) (b i : Nat) : Prop := pit 0 i (gm f) (0 + 1) (66 + 15 * b + 12) = nI 2
/-- a state after some minutes: the ledger goes along -/
def pst (a B n P : Nat) (f : Nat → Int32) (I : ow_I) : Prop := st a 0 B I (pit 0 n (gm f)) ∧ lgf P (pit 0 n (gm f) (0 + 1)) ∧ pit 0 n (gm f) (0 + 1) 7 = f 7
theorem pst_s {n P : Nat} (h : pst (x + 52) B n P f I) (hP : P < 2 ^ 31) (hB : B < 2 ^ 27) : pst (x + 52) (B + 1) (n + 1) P f (K_letPass (x + 52) 1 I).2 := by
  obtain ⟨h1, h2, h3⟩ := h
  obtain ⟨l1, l2⟩ := lk_pass (m := 0) (J := pit 0 n (gm f)) hP h1.2.1 h1.2.2 (by omega) h2
  refine ⟨sc_pass h1 (by omega), ?_, ?_⟩
  · rw [pit_s]; exact l1
  · rw [pit_s]; exact l2.2.2.2.2.2.trans h3
theorem pst_b {a n P : Nat} (h : pst a B n P f I) (hb : b < tn (f 7)) : I (a + 11 + 2 * b) 7 = pit 0 n (gm f) (0 + 1) (66 + 15 * b + 12) ∧ I (a + 11 + 2 * b) 8 = pit 0 n (gm f) (0 + 1) (66 + 15 * b + 13) := by
  obtain ⟨h1, h2, h3⟩ := h
  obtain ⟨-, -, c7, c8, -⟩ := rl_bar h1.1 (b := b) (by rw [h3]; exact hb)
  exact ⟨c7, c8⟩
/-- how the first sale is told -/
def tol (f : Nat → Int32) (b i N : Nat) (r : Int32) : Prop := (∃ j, i ≤ j ∧ j ≤ N ∧ sld f b j ∧ (∀ k, i ≤ k → k < j → ¬ sld f b k) ∧ r = nI j) ∨ ((∀ k, i ≤ k → k ≤ N → ¬ sld f b k) ∧ r = -1)
theorem ms_l {P : Nat} (hP : P < 2 ^ 31) (hb : b < tn (f 7)) (hb20 : b < 20) : ∀ (fuel i B : Nat) (S : ow_I), 1 ≤ i → i ≤ 501 → 501 < i + fuel → B < 2 ^ 20 + i → k_V (x + 52) S → pst (x + 52) B (i - 1) P f S → (∀ z, z < x + 52 ∨ x + 103 ≤ z → (A_minutesToSale_L37 x (nI b) fuel S i).2 z = S z) ∧ k_V (x + 52) (A_minutesToSale_L37 x (nI b) fuel S i).2 ∧ tol f b i 500 (A_minutesToSale_L37 x (nI b) fuel S i).1 := by
  have tb : tn (nI b) = b := tn_nI (by omega)
  intro fuel
  induction fuel with
  | zero => intro i B S h1 h2 h3; omega
  | succ fuel ih =>
    intro i B S h1 h2 h3 hB hk hp
    simp only [A_minutesToSale_L37, lt]
    by_cases c : 500 < i
    · rw [if_pos c]
      exact ⟨fun _ _ => rfl, hk, Or.inr ⟨fun k a1 a2 => by omega, rfl⟩⟩
    · rw [if_neg c]
      have hp1 := pst_s hp hP (by omega)
      rw [show i - 1 + 1 = i by omega] at hp1
      have hk1 : k_V (x + 52) (K_letPass (x + 52) 1 S).2 := kV_let hk
      have hrr : ∀ z, z < x + 52 ∨ x + 103 ≤ z → (K_letPass (x + 52) 1 S).2 z = S z := fun z hz => rr_let (by omega) hk
      rw [tb, (pst_b hp1 hb).1]
      by_cases d : pit 0 i (gm f) (0 + 1) (66 + 15 * b + 12) = nI 2
      · rw [if_pos d]
        exact ⟨hrr, hk1, Or.inl ⟨i, Nat.le_refl _, by omega, d, fun k a1 a2 => absurd a2 (by omega), rfl⟩⟩
      · rw [if_neg d]
        obtain ⟨r1, r2, r3⟩ := ih (i + 1) (B + 1) _ (by omega) (by omega) (by omega) (by omega) hk1 (by rw [show i + 1 - 1 = i by omega]; exact hp1)
        refine ⟨fun z hz => (r1 z hz).trans (hrr z hz), r2, ?_⟩
        rcases r3 with ⟨j, a1, a2, a3, a4, a5⟩ | ⟨a1, a2⟩
        · refine Or.inl ⟨j, by omega, a2, a3, fun k b1 b2 => ?_, a5⟩
          by_cases e : k = i
          · subst e; exact d
          · exact a4 k (by omega) b2
        · refine Or.inr ⟨fun k b1 b2 => ?_, a2⟩
          by_cases e : k = i
          · subst e; exact d
          · exact a1 k (by omega) b2
theorem fo_all (h : LI B x q I) (hB : B ≤ 2000) (hb : b < tn (I (x + 1) 10)) : qFor B x q (nI b) I ∧ ∃ f : Nat → Int32, rl (x + 1) I f ∧ md_V f ∧ iv B f ∧ lgf (1000 + 40 * B) f ∧ rl (x + 1) (fo3 x (nI b) I) f ∧ tol f b 0 500 (A_minutesToSale x (nI b) I).1 ∧ (A_buyerAfter x (nI b) (nI 40) (fo1 x (nI b) I)).1 = pit 0 40 (gm f) (0 + 1) (66 + 15 * b + 13) ∧ (A_sellerCoinsAfter x (nI 40) (fo2 x (nI b) I)).1 = pit 0 40 (gm f) (0 + 1) 13 := by
  obtain ⟨f, hr, hv, hi, hl, hq, hop⟩ := li_to h
  have h7 := hv.2.2.1.2
  have hb' : b < tn (f 7) := by rw [← hr.2.2.1.2.1]; exact hb
  have tb : tn (nI b) = b := tn_nI (by omega)
  -- minutesToSale
  have m1 : (∀ z, z < x + 52 ∨ x + 103 ≤ z → fo1 x (nI b) I z = I z) ∧ k_V (x + 52) (fo1 x (nI b) I) ∧ tol f b 0 500 (A_minutesToSale x (nI b) I).1 := by
    unfold fo1 A_minutesToSale
    rw [tb, (rl_bar hr hb').2.2.1]
    by_cases c : f (66 + 15 * b + 12) = nI 2
    · rw [if_pos c]
      exact ⟨fun _ _ => rfl, h.1.2.1, Or.inl ⟨0, Nat.le_refl _, Nat.zero_le _, c, fun k a1 a2 => absurd a2 (by omega), rfl⟩⟩
    · rw [if_neg c]
      simp only [lt]
      have hk0 : k_V (x + 52) (K_copyFrom (x + 52) (x + 1) I) := kV_sc h.1.1 h.1.2.1
      obtain ⟨r1, r2, r3⟩ := ms_l (x := x) (P := 1000 + 40 * B) (by omega) hb' (by omega) 501 1 B (K_copyFrom (x + 52) (x + 1) I) (Nat.le_refl _) (by decide) (by decide) (by omega) hk0 ⟨sc_cp h hr hv hi, hl, rfl⟩
      refine ⟨fun z hz => (r1 z hz).trans (rr_sc h.1.1 hz), r2, ?_⟩
      rcases r3 with ⟨j, a1, a2, a3, a4, a5⟩ | ⟨a1, a2⟩
      · refine Or.inl ⟨j, by omega, a2, a3, fun k b1 b2 => ?_, a5⟩
        by_cases e : k = 0
        · subst e; exact c
        · exact a4 k (by omega) b2
      · refine Or.inr ⟨fun k b1 b2 => ?_, a2⟩
        by_cases e : k = 0
        · subst e; exact c
        · exact a1 k (by omega) b2
  obtain ⟨m1, m2, m3⟩ := m1
  have L1 := li_sc h m1 m2
  have r1 : rl (x + 1) (fo1 x (nI b) I) f := rl_I hr hv (fun z z1 z2 => m1 z (by omega)) (fun _ _ => rfl)
  have t40 : tn (nI 40) = 40 := by decide
  have eB : ∀ K : ow_I, A_buyerAfter x (nI b) (nI 40) K = (A_foresee x (K (x + 1) 2) 40 K (x + 52 + 11 + 2 * b) 8, A_foresee x (K (x + 1) 2) 40 K) := fun K => by
    unfold A_buyerAfter
    rw [t40, tb, lt_eq]
  have eC : ∀ K : ow_I, A_sellerCoinsAfter x (nI 40) K = (A_foresee x (K (x + 1) 2) 40 K (x + 52) 4, A_foresee x (K (x + 1) 2) 40 K) := fun K => by
    unfold A_sellerCoinsAfter
    rw [t40, lt_eq]
  have e2 : fo2 x (nI b) I = A_foresee x (fo1 x (nI b) I (x + 1) 2) 40 (fo1 x (nI b) I) := by unfold fo2; rw [eB]
  have f2 := fs_st L1 r1 hv hi (n := 40) (by decide)
  rw [← e2] at f2
  have m2' : ∀ z, z < x + 52 ∨ x + 103 ≤ z → fo2 x (nI b) I z = fo1 x (nI b) I z := fun z hz => by rw [e2]; exact rr_fs L1.1.1 L1.1.2.1 hz
  have L2 := li_sc L1 m2' (by rw [e2]; exact kV_fs L1.1.1 L1.1.2.1)
  have r2 : rl (x + 1) (fo2 x (nI b) I) f := rl_I r1 hv (fun z z1 z2 => m2' z (by omega)) (fun _ _ => rfl)
  have e3 : fo3 x (nI b) I = A_foresee x (fo2 x (nI b) I (x + 1) 2) 40 (fo2 x (nI b) I) := by unfold fo3; rw [eC]
  have f3 := fs_st L2 r2 hv hi (n := 40) (by decide)
  rw [← e3] at f3
  have m3' : ∀ z, z < x + 52 ∨ x + 103 ≤ z → fo3 x (nI b) I z = fo2 x (nI b) I z := fun z hz => by rw [e3]; exact rr_fs L2.1.1 L2.1.2.1 hz
  have L3 := li_sc L2 m3' (by rw [e3]; exact kV_fs L2.1.1 L2.1.2.1)
  have r3 : rl (x + 1) (fo3 x (nI b) I) f := rl_I r2 hv (fun z z1 z2 => m3' z (by omega)) (fun _ _ => rfl)
  have c1 : fo1 x (nI b) I (x + 1) 10 = I (x + 1) 10 := by rw [m1 _ (by omega)]
  have c2 : fo2 x (nI b) I (x + 1) 10 = I (x + 1) 10 := by rw [m2' _ (by omega), c1]
  have c3 : fo3 x (nI b) I (x + 1) 10 = I (x + 1) 10 := by rw [m3' _ (by omega), c2]
  have p7 : ∀ n, n ≤ 40 → md_V (pit 0 n (gm f) (0 + 1)) ∧ (∃ B', B' ≤ 5000 ∧ iv B' (pit 0 n (gm f) (0 + 1))) ∧ lgf (1000 + 40 * B) (pit 0 n (gm f) (0 + 1)) ∧ pit 0 n (gm f) (0 + 1) 7 = f 7 := by
    intro n
    induction n with
    | zero => intro _; exact ⟨hv, ⟨B, by omega, hi⟩, hl, rfl⟩
    | succ n ih =>
      intro hn
      obtain ⟨a1, ⟨B', a2, a3⟩, a4, a5⟩ := ih (by omega)
      obtain ⟨l1, l2⟩ := lk_pass (m := 0) (J := pit 0 n (gm f)) (by omega) a1 a3 (by omega) a4
      have hs := fs_st h hr hv hi (n := n + 1) (by omega)
      rw [pit_s] at hs ⊢
      exact ⟨hs.2.1, ⟨B + (n + 1), by omega, hs.2.2⟩, l1, l2.2.2.2.2.2.trans a5⟩
  refine ⟨⟨⟨L1, c1⟩, ⟨L2, c2⟩, L3, c3⟩, f, hr, hv, hi, hl, r3, m3, ?_, ?_⟩
  · rw [eB, ← e2]
    exact (rl_bar f2.1 (b := b) (by rw [(p7 40 (Nat.le_refl _)).2.2.2]; exact hb')).2.2.2.1
  · rw [eC, ← e3]
    exact f3.1.2.1.2.2.2.1
end FOR
