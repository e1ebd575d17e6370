/-! THE FORECAST: minutesToSale -/
section FOM
variable {x q B b : Nat} {I J : ow_I} {f g : Nat → Int32}
theorem fo_ms {P : Nat} (hP : P < 2 ^ 31) (hB : B ≤ 2000) (hb20 : b < 20) (hX : au_V x I) (hr : rl (x + 1) I f) (hv : md_V f) (hi : iv B f) (hl : lgf P f) (hb : b < tn (f 7)) (h0 : st (x + 52) 0 B (K_copyFrom (x + 52) (x + 1) I) (pit 0 0 (gm f))) : (∀ z, z < x + 52 ∨ x + 103 ≤ z → (A_minutesToSale x (nI b) I).2 z = I z) ∧ k_V (x + 52) (A_minutesToSale x (nI b) I).2 ∧ tol f b 0 500 (A_minutesToSale x (nI b) I).1 := by
  have tb : tn (nI b) = b := tn_nI (by omega)
  have hk0 : k_V (x + 52) (K_copyFrom (x + 52) (x + 1) I) := kV_sc hX.1 hX.2.1
  have hz : ∀ z, z < x + 52 ∨ x + 103 ≤ z → K_copyFrom (x + 52) (x + 1) I z = I z := fun z hz => rr_sc hX.1 hz
  unfold A_minutesToSale
  rw [tb, (rl_bar hr hb).2.2.1, lt_eq]
  obtain ⟨N, hN⟩ : ∃ N, N = 501 := ⟨_, rfl⟩
  rw [← hN]
  obtain ⟨r1, r2, r3⟩ := ms_l (x := x) (f := f) (b := b) (P := P) hP hb hb20 N 1 B (K_copyFrom (x + 52) (x + 1) I) (Nat.le_refl _) (by omega) (by omega) (by omega) hk0 ⟨h0, hl, rfl⟩
  clear hN
  generalize A_minutesToSale_L37 x (nI b) N (K_copyFrom (x + 52) (x + 1) I) 1 = R at r1 r2 r3 ⊢
  by_cases c : f (66 + 15 * b + 12) = nI 2
  · rw [if_pos c]
    exact ⟨fun _ _ => rfl, hX.2.1, Or.inl ⟨0, Nat.le_refl _, Nat.zero_le _, c, fun k a1 a2 => absurd a2 (by omega), rfl⟩⟩
  · rw [if_neg c]
    refine ⟨fun z h => (r1 z h).trans (hz z h), r2, ?_⟩
    rcases r3 with ⟨j, a1, a2, a3, a4, a5⟩ | ⟨a1, a2⟩
    · refine Or.inl ⟨j, by omega, a2, a3, fun k b1 b2 => ?_, a5⟩
      by_cases e : k = 0
      · subst e; exact c
      · exact a4 k (by omega) b2
    · refine Or.inr ⟨fun k b1 b2 => ?_, a2⟩
      by_cases e : k = 0
      · subst e; exact c
      · exact a1 k (by omega) b2
theorem fs_p {P : Nat} (h : LI B x q I) (hP : P < 2 ^ 31) (hB : B ≤ 2000) (hr : rl (x + 1) I f) (hv : md_V f) (hi : iv B f) (hl : lgf P f) : ∀ n, n ≤ 600 → md_V (pit 0 n (gm f) (0 + 1)) ∧ (∃ B', B' ≤ 5000 ∧ iv B' (pit 0 n (gm f) (0 + 1))) ∧ lgf P (pit 0 n (gm f) (0 + 1)) ∧ pit 0 n (gm f) (0 + 1) 7 = f 7 := by
  intro n
  induction n with
  | zero => intro _; exact ⟨hv, ⟨B, by omega, hi⟩, hl, rfl⟩
  | succ n ih =>
    intro hn
    obtain ⟨a1, ⟨B', a2, a3⟩, a4, a5⟩ := ih (by omega)
    obtain ⟨l1, l2⟩ := lk_pass (m := 0) (J := pit 0 n (gm f)) hP a1 a3 (by omega) a4
    have hs := fs_st h hr hv hi (n := n + 1) (by omega)
    rw [pit_s] at hs ⊢
    exact ⟨hs.2.1, ⟨B + (n + 1), by omega, hs.2.2⟩, l1, l2.2.2.2.2.2.trans a5⟩
/-- a look ahead: the live market stays, the scratch is n minutes on -/
theorem fs_li (h : LI B x q I) (hr : rl (x + 1) I f) (hv : md_V f) (hi : iv B f) {n : Nat} (hn : n ≤ 600) {s : Int32} (hs : s = I (x + 1) 2) {J : ow_I} (hJ : J = A_foresee x s n I) : (∀ z, z < x + 52 ∨ x + 103 ≤ z → J z = I z) ∧ LI B x q J ∧ rl (x + 1) J f ∧ st (x + 52) 0 (B + n) J (pit 0 n (gm f)) := by
  subst hs
  have f2 := fs_st h hr hv hi hn
  rw [← hJ] at f2
  have m2 : ∀ z, z < x + 52 ∨ x + 103 ≤ z → J z = I z := fun z hz => by rw [hJ]; exact rr_fs h.1.1 h.1.2.1 hz
  exact ⟨m2, li_sc h m2 (by rw [hJ]; exact kV_fs h.1.1 h.1.2.1), rl_I hr hv (fun z z1 z2 => m2 z (by omega)) (fun _ _ => rfl), f2⟩
theorem ba_eq {n : Nat} {K : ow_I} (hn : n < 2 ^ 31) (hb : b < 2 ^ 31) : (A_buyerAfter x (nI b) (nI n) K).1 = A_foresee x (K (x + 1) 2) n K (x + 52 + 11 + 2 * b) 8 ∧ (A_buyerAfter x (nI b) (nI n) K).2 = A_foresee x (K (x + 1) 2) n K := by
  unfold A_buyerAfter
  rw [tn_nI hn, tn_nI hb, lt_eq]
  exact ⟨rfl, rfl⟩
theorem sa_eq {n : Nat} {K : ow_I} (hn : n < 2 ^ 31) : (A_sellerCoinsAfter x (nI n) K).1 = A_foresee x (K (x + 1) 2) n K (x + 52) 4 ∧ (A_sellerCoinsAfter x (nI n) K).2 = A_foresee x (K (x + 1) 2) n K := by
  unfold A_sellerCoinsAfter
  rw [tn_nI hn, lt_eq]
  exact ⟨rfl, rfl⟩
end FOM
