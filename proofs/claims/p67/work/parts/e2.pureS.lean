/-! THE FORECAST -/
section FOR
variable {x q B b : Nat} {I J : ow_I} {f g : Nat → Int32}
theorem li_sc (h : LI B x q I) (hJ : ∀ z, z < x + 52 ∨ x + 103 ≤ z → J z = I z) (hk : k_V (x + 52) J) : LI B x q J := by
  obtain ⟨f, hr, hv, hi, hl, hq, hop⟩ := li_to h
  obtain ⟨h1, h2, h3, h4, h5, h6⟩ := h.1
  have hX : au_V x J := ⟨kV_eq h1 (fun z z1 z2 => hJ z (by omega)), hk, fun i hi => kV_eq (h3 i hi) (fun z z1 z2 => hJ z (by omega)), fun i hi => kV_eq (h4 i hi) (fun z z1 z2 => hJ z (by omega)), by rw [hJ _ (by omega)]; exact h5, by rw [hJ _ (by omega)]; exact h6⟩
  have hx := h.2.2.2.2.1
  exact li_of hX (rl_I hr hv (fun z z1 z2 => hJ z (by omega)) (fun _ _ => rfl)) hv hi hl (by rw [hJ q (by omega)]; exact hq) hx h.2.2.2.2.2.1 hop
theorem pit_s (m : Nat) : ∀ (n : Nat) (J : ow_I), pit m (n + 1) J = M_passOne m (pit m n J) := by
  intro n
  induction n with
  | zero => intro J; rfl
  | succ n ih => intro J; show pit m (n + 1) (M_passOne m J) = _; rw [ih]; rfl
/-- the scratch after n minutes -/
theorem sc_pass {n B : Nat} (hs : st (x + 52) 0 B I (pit 0 n (gm f))) (hB : B < 2 ^ 28) : st (x + 52) 0 (B + 1) (K_letPass (x + 52) 1 I).2 (pit 0 (n + 1) (gm f)) := by
  have := (st_let (a := x + 52) (m := 0) (B := B) (n2 := 1) hs (by omega)).1
  rw [pass_it.1] at this
  rw [pit_s]
  exact this
theorem sc_cp (h : LI B x q I) (hr : rl (x + 1) I f) (hv : md_V f) (hi : iv B f) : st (x + 52) 0 B (K_copyFrom (x + 52) (x + 1) I) (pit 0 0 (gm f)) := ⟨rl_cp hr hv (by omega), hv, hi⟩
theorem fs_st (h : LI B x q I) (hr : rl (x + 1) I f) (hv : md_V f) (hi : iv B f) {n : Nat} (hn : n ≤ 600) : st (x + 52) 0 (B + n) (A_foresee x (I (x + 1) 2) n I) (pit 0 n (gm f)) := by
  have h0 := rl_cp (a := x + 52) hr hv (by omega)
  have hB := h.2.2.2.2.2.1
  have e : ow_u (K_copyFrom (x + 52) (x + 1) I) (x + 52) 2 (I (x + 1) 2) = K_copyFrom (x + 52) (x + 1) I := by
    funext a k
    by_cases c : a = x + 52
    · subst c
      by_cases d : k = 2
      · subst d
        rw [ow_u_s, h0.2.1.2.1, hr.2.1.2.1]
      · rw [ow_u_k _ _ _ _ d]
    · rw [ow_u_a _ _ _ _ c]
  have hl := (st_let (a := x + 52) (m := 0) (B := B) (n2 := n) (I := K_copyFrom (x + 52) (x + 1) I) (J := gm f) ⟨h0, hv, hi⟩ (by omega)).1
  rw [pass_it.1] at hl
  have : A_foresee x (I (x + 1) 2) n I = (K_letPass (x + 52) n (K_copyFrom (x + 52) (x + 1) I)).2 := by
    show (K_letPass (x + 52) n (ow_u (K_copyFrom (x + 52) (x + 1) I) (x + 52) 2 (I (x + 1) 2))).2 = _
    rw [e]
  rw [this]
  exact hl
/-- the first minute in which the barrel is sold -/
def sld (f : Nat → Int32) (b i : Nat) : Prop := pit 0 i (gm f) (0 + 1) (66 + 15 * b + 12) = nI 2
/-- a state after some minutes: the ledger goes along -/
def pst (a B n P : Nat) (f : Nat → Int32) (I : ow_I) : Prop := st a 0 B I (pit 0 n (gm f)) ∧ lgf P (pit 0 n (gm f) (0 + 1)) ∧ pit 0 n (gm f) (0 + 1) 7 = f 7
theorem pst_s {n P : Nat} (h : pst (x + 52) B n P f I) (hP : P < 2 ^ 31) (hB : B < 2 ^ 27) : pst (x + 52) (B + 1) (n + 1) P f (K_letPass (x + 52) 1 I).2 := by
  obtain ⟨h1, h2, h3⟩ := h
  obtain ⟨l1, l2⟩ := lk_pass (m := 0) (J := pit 0 n (gm f)) hP h1.2.1 h1.2.2 (by omega) h2
  refine ⟨sc_pass h1 (by omega), ?_, ?_⟩
  · rw [pit_s]; exact l1
  · rw [pit_s]; exact l2.2.2.2.2.2.trans h3
theorem pst_b {a n P : Nat} (h : pst a B n P f I) (hb : b < tn (f 7)) : I (a + 11 + 2 * b) 7 = pit 0 n (gm f) (0 + 1) (66 + 15 * b + 12) ∧ I (a + 11 + 2 * b) 8 = pit 0 n (gm f) (0 + 1) (66 + 15 * b + 13) := by
  obtain ⟨h1, h2, h3⟩ := h
  obtain ⟨-, -, c7, c8, -⟩ := rl_bar h1.1 (b := b) (by rw [h3]; exact hb)
  exact ⟨c7, c8⟩
/-- how the first sale is told -/
def tol (f : Nat → Int32) (b i N : Nat) (r : Int32) : Prop := (∃ j, i ≤ j ∧ j ≤ N ∧ sld f b j ∧ (∀ k, i ≤ k → k < j → ¬ sld f b k) ∧ r = nI j) ∨ ((∀ k, i ≤ k → k ≤ N → ¬ sld f b k) ∧ r = -1)
theorem ms_l {P : Nat} (hP : P < 2 ^ 31) (hb : b < tn (f 7)) (hb20 : b < 20) : ∀ (fuel i B : Nat) (S : ow_I), 1 ≤ i → i ≤ 501 → 501 < i + fuel → B < 2 ^ 20 + i → k_V (x + 52) S → pst (x + 52) B (i - 1) P f S → (∀ z, z < x + 52 ∨ x + 103 ≤ z → (A_minutesToSale_L37 x (nI b) fuel S i).2 z = S z) ∧ k_V (x + 52) (A_minutesToSale_L37 x (nI b) fuel S i).2 ∧ tol f b i 500 (A_minutesToSale_L37 x (nI b) fuel S i).1 := by
  have tb : tn (nI b) = b := tn_nI (by omega)
  intro fuel
  induction fuel with
  | zero => intro i B S h1 h2 h3; omega
  | succ fuel ih =>
    intro i B S h1 h2 h3 hB hk hp
    simp only [A_minutesToSale_L37, lt]
    by_cases c : 500 < i
    · rw [if_pos c]
      exact ⟨fun _ _ => rfl, hk, Or.inr ⟨fun k a1 a2 => by omega, rfl⟩⟩
    · rw [if_neg c]
      have hp1 := pst_s hp hP (by omega)
      rw [show i - 1 + 1 = i by omega] at hp1
      have hk1 : k_V (x + 52) (K_letPass (x + 52) 1 S).2 := kV_let hk
      have hrr : ∀ z, z < x + 52 ∨ x + 103 ≤ z → (K_letPass (x + 52) 1 S).2 z = S z := fun z hz => rr_let (by omega) hk
      rw [tb, (pst_b hp1 hb).1]
      by_cases d : pit 0 i (gm f) (0 + 1) (66 + 15 * b + 12) = nI 2
      · rw [if_pos d]
        exact ⟨hrr, hk1, Or.inl ⟨i, Nat.le_refl _, by omega, d, fun k a1 a2 => absurd a2 (by omega), rfl⟩⟩
      · rw [if_neg d]
        obtain ⟨r1, r2, r3⟩ := ih (i + 1) (B + 1) _ (by omega) (by omega) (by omega) (by omega) hk1 (by rw [show i + 1 - 1 = i by omega]; exact hp1)
        refine ⟨fun z hz => (r1 z hz).trans (hrr z hz), r2, ?_⟩
        rcases r3 with ⟨j, a1, a2, a3, a4, a5⟩ | ⟨a1, a2⟩
        · refine Or.inl ⟨j, by omega, a2, a3, fun k b1 b2 => ?_, a5⟩
          by_cases e : k = i
          · subst e; exact d
          · exact a4 k (by omega) b2
        · refine Or.inr ⟨fun k b1 b2 => ?_, a2⟩
          by_cases e : k = i
          · subst e; exact d
          · exact a1 k (by omega) b2
end FOR
