/-! THE LEDGER OF A STATE OF THE REFERENCE -/
def zB (f : Nat → Int32) (y : Nat) : Nat → Nat
  | 0 => 0
  | n + 1 => if f (66 + 15 * n + 12) = nI 2 ∧ f (66 + 15 * n + 13) = nI y then zB f y n + 1 else zB f y n
def zP (f : Nat → Int32) : Nat → Int32
  | 0 => 0
  | n + 1 => if f (66 + 15 * n + 12) = nI 2 then zP f n + f (66 + 15 * n + 14) else zP f n
def zS (f : Nat → Int32) : Nat → Int32
  | 0 => 0
  | n + 1 => zS f n + f (36 + 5 * n)
def lgf (P : Nat) (f : Nat → Int32) : Prop :=
  (∀ b, b < tn (f 7) → f (66 + 15 * b + 12) = nI 2 → 0 ≤ f (66 + 15 * b + 13) ∧ tn (f (66 + 15 * b + 13)) < tn (f 6)) ∧
  (∀ b, b < tn (f 7) → ¬ f (66 + 15 * b + 12) = nI 2 → f (66 + 15 * b + 13) = -1 ∧ f (66 + 15 * b + 14) = -1) ∧
  (∀ y, y < tn (f 6) → f (36 + 5 * y + 3) = nI (zB f y (tn (f 7)))) ∧
  f 13 = zP f (tn (f 7)) ∧
  f 15 - zS f (tn (f 6)) - f 13 - f 14 = 0 ∧
  (∀ b, b < tn (f 7) → f (66 + 15 * b + 12) = 0 ∨ f (66 + 15 * b + 12) = nI 1 → ∃ r : Nat, f (66 + 15 * b + 11) = nI r ∧ r ≤ 2) ∧
  (∀ y, y < tn (f 6) → ∃ c : Nat, f (36 + 5 * y) = nI c ∧ c ≤ P)
section LGF
variable {a P : Nat} {I : ow_I} {f g : Nat → Int32}
theorem rl_bar (hr : rl a I f) {b : Nat} (hb : b < tn (f 7)) : I (a + 11 + 2 * b) 5 = f (66 + 15 * b + 10) ∧ I (a + 11 + 2 * b) 6 = f (66 + 15 * b + 11) ∧ I (a + 11 + 2 * b) 7 = f (66 + 15 * b + 12) ∧ I (a + 11 + 2 * b) 8 = f (66 + 15 * b + 13) ∧ I (a + 11 + 2 * b) 9 = f (66 + 15 * b + 14) := by
  obtain ⟨-, -, h5, h6, h7, h8, h9⟩ := hr.2.2.2.2.2.2 b hb
  exact ⟨h5, h6, h7, h8, h9⟩
theorem rl_buy (hr : rl a I f) {y : Nat} (hy : y < tn (f 6)) {w : Nat} (hw : w < 5) : I (a + 5 + y) w = f (36 + 5 * y + w) := hr.2.2.2.2.1 y hy w hw
theorem cB_z (hr : rl a I f) (y : Nat) : ∀ n, n ≤ tn (f 7) → cB a I y n = zB f y n := by
  intro n
  induction n with
  | zero => intro _; rfl
  | succ n ih =>
    intro h
    obtain ⟨-, -, e7, e8, -⟩ := rl_bar hr (b := n) (by omega)
    simp only [cB, zB]
    rw [e7, e8, ih (by omega)]
theorem cP_z (hr : rl a I f) : ∀ n, n ≤ tn (f 7) → cP a I n = zP f n := by
  intro n
  induction n with
  | zero => intro _; rfl
  | succ n ih =>
    intro h
    obtain ⟨-, -, e7, -, e9⟩ := rl_bar hr (b := n) (by omega)
    simp only [cP, zP]
    rw [e7, e9, ih (by omega)]
theorem zB_c {y : Nat} : ∀ n, (∀ k, k < n → g (66 + 15 * k + 12) = f (66 + 15 * k + 12) ∧ g (66 + 15 * k + 13) = f (66 + 15 * k + 13)) → zB g y n = zB f y n := by
  intro n
  induction n with
  | zero => intro _; rfl
  | succ n ih =>
    intro h
    simp only [zB]
    rw [(h n (by omega)).1, (h n (by omega)).2, ih (fun k hk => h k (by omega))]
theorem zP_c : ∀ n, (∀ k, k < n → g (66 + 15 * k + 12) = f (66 + 15 * k + 12) ∧ g (66 + 15 * k + 14) = f (66 + 15 * k + 14)) → zP g n = zP f n := by
  intro n
  induction n with
  | zero => intro _; rfl
  | succ n ih =>
    intro h
    simp only [zP]
    rw [(h n (by omega)).1, (h n (by omega)).2, ih (fun k hk => h k (by omega))]
theorem zS_c : ∀ n, (∀ k, k < n → g (36 + 5 * k) = f (36 + 5 * k)) → zS g n = zS f n := by
  intro n
  induction n with
  | zero => intro _; rfl
  | succ n ih =>
    intro h
    simp only [zS]
    rw [h n (by omega), ih (fun k hk => h k (by omega))]
theorem cip_l (hr : rl a I f) (hn : tn (f 6) ≤ 6) : ∀ fuel i, i ≤ tn (f 6) → tn (f 6) < i + fuel → K_coinsInPurses_L4 a fuel I (zS f i) i = zS f (tn (f 6)) := by
  intro fuel
  induction fuel with
  | zero => intro i h1 h2; omega
  | succ fuel ih =>
    intro i h1 h2
    simp only [K_coinsInPurses_L4]
    rw [hr.2.2.1.1]
    by_cases e : tn (f 6) ≤ i
    · rw [if_pos e]
      have : i = tn (f 6) := by omega
      rw [← this]
    · rw [if_neg e]
      have hr2 := ih (i + 1) (by omega) (by omega)
      simp only [zS] at hr2
      rw [rl_buy hr (by omega) (by decide)]
      exact hr2
theorem cip_e (hr : rl a I f) (hv : md_V f) : K_coinsInPurses a I = zS f (tn (f 6)) := by
  have h6 := hv.2.1
  exact cip_l hr h6.2.2 7 0 (Nat.zero_le _) (by omega)
theorem lg_to (hr : rl a I f) (hv : md_V f) (h : lg P a I) : lgf P f := by
  obtain ⟨h1, h2, h3, h4, h5, h6, h7⟩ := h
  have e10 := hr.2.2.1.2.1
  have e8 := hr.2.2.1.1
  rw [e10] at h1 h2 h3 h4 h6
  rw [e8] at h1 h3 h7
  refine ⟨fun b hb hs => ?_, fun b hb hs => ?_, fun y hy => ?_, ?_, ?_, fun b hb hs => ?_, fun y hy => ?_⟩
  · obtain ⟨-, -, e7, e8, -⟩ := rl_bar hr hb
    have := h1 b hb (by rw [e7]; exact hs)
    rw [e8] at this
    exact this
  · obtain ⟨-, -, e7, e8, e9⟩ := rl_bar hr hb
    have := h2 b hb (by rw [e7]; exact hs)
    rw [e8, e9] at this
    exact this
  · have := h3 y hy
    rw [rl_buy hr hy (by decide), cB_z hr y _ (Nat.le_refl _)] at this
    exact this
  · rw [← hr.2.1.2.2.2.1, h4, cP_z hr _ (Nat.le_refl _)]
  · rw [← hr.2.1.2.2.2.1, ← hr.2.1.2.2.2.2.1, ← hr.2.1.2.2.2.2.2, ← cip_e hr hv]; exact h5
  · obtain ⟨-, e6, e7, -, -⟩ := rl_bar hr hb
    have := h6 b hb (by rw [e7]; exact hs)
    rw [e6] at this
    exact this
  · have := h7 y hy
    rw [rl_buy hr hy (by decide)] at this
    exact this
theorem lg_of (hr : rl a I f) (hv : md_V f) (h : lgf P f) : lg P a I := by
  obtain ⟨h1, h2, h3, h4, h5, h6, h7⟩ := h
  have e10 := hr.2.2.1.2.1
  have e8 := hr.2.2.1.1
  refine ⟨fun b hb hs => ?_, fun b hb hs => ?_, fun y hy => ?_, ?_, ?_, fun b hb hs => ?_, fun y hy => ?_⟩
  · rw [e10] at hb
    obtain ⟨-, -, e7, e8', -⟩ := rl_bar hr hb
    rw [e7] at hs
    rw [e8', e8]
    exact h1 b hb hs
  · rw [e10] at hb
    obtain ⟨-, -, e7, e8', e9⟩ := rl_bar hr hb
    rw [e7] at hs
    rw [e8', e9]
    exact h2 b hb hs
  · rw [e8] at hy
    rw [e10, rl_buy hr hy (by decide), cB_z hr y _ (Nat.le_refl _)]
    exact h3 y hy
  · rw [e10, hr.2.1.2.2.2.1, h4, cP_z hr _ (Nat.le_refl _)]
  · rw [hr.2.1.2.2.2.1, hr.2.1.2.2.2.2.1, hr.2.1.2.2.2.2.2, cip_e hr hv]; exact h5
  · rw [e10] at hb
    obtain ⟨-, e6, e7, -, -⟩ := rl_bar hr hb
    rw [e7] at hs
    rw [e6]
    exact h6 b hb hs
  · rw [e8] at hy
    rw [rl_buy hr hy (by decide)]
    exact h7 y hy
/-- the ledger looks at these places alone -/
theorem lgf_c (hv : md_V f) (h : lgf P f) (e6 : g 6 = f 6) (e7 : g 7 = f 7) (e13 : g 13 = f 13) (e14 : g 14 = f 14) (e15 : g 15 = f 15) (ep : ∀ y, y < 6 → g (36 + 5 * y) = f (36 + 5 * y) ∧ g (36 + 5 * y + 3) = f (36 + 5 * y + 3)) (eb : ∀ k, k < 20 → ∀ w, 11 ≤ w → w < 15 → g (66 + 15 * k + w) = f (66 + 15 * k + w)) : lgf P g := by
  have h6 := hv.2.1.2.2
  have h7 := hv.2.2.1.2
  obtain ⟨q1, q2, q3, q4, q5, q6, q7⟩ := h
  have b12 : ∀ k, k < tn (f 7) → g (66 + 15 * k + 12) = f (66 + 15 * k + 12) := fun k hk => eb k (by omega) 12 (by decide) (by decide)
  have b13 : ∀ k, k < tn (f 7) → g (66 + 15 * k + 13) = f (66 + 15 * k + 13) := fun k hk => eb k (by omega) 13 (by decide) (by decide)
  have b14 : ∀ k, k < tn (f 7) → g (66 + 15 * k + 14) = f (66 + 15 * k + 14) := fun k hk => eb k (by omega) 14 (by decide) (by decide)
  have b11 : ∀ k, k < tn (f 7) → g (66 + 15 * k + 11) = f (66 + 15 * k + 11) := fun k hk => eb k (by omega) 11 (by decide) (by decide)
  unfold lgf
  rw [e6, e7, e13, e14, e15]
  refine ⟨fun b hb hs => ?_, fun b hb hs => ?_, fun y hy => ?_, ?_, ?_, fun b hb hs => ?_, fun y hy => ?_⟩
  · rw [b12 b hb] at hs; rw [b13 b hb]; exact q1 b hb hs
  · rw [b12 b hb] at hs; rw [b13 b hb, b14 b hb]; exact q2 b hb hs
  · rw [(ep y (by omega)).2, q3 y hy, zB_c _ (fun k hk => ⟨b12 k hk, b13 k hk⟩)]
  · rw [q4, zP_c _ (fun k hk => ⟨b12 k hk, b14 k hk⟩)]
  · rw [zS_c _ (fun k hk => (ep k (by omega)).1)]; exact q5
  · rw [b12 b hb] at hs; rw [b11 b hb]; exact q6 b hb hs
  · rw [(ep y (by omega)).1]; exact q7 y hy
theorem lgf_mono {Q : Nat} (h : lgf P f) (hPQ : P ≤ Q) : lgf Q f := ⟨h.1, h.2.1, h.2.2.1, h.2.2.2.1, h.2.2.2.2.1, h.2.2.2.2.2.1, fun y hy => by obtain ⟨c, h1, h2⟩ := h.2.2.2.2.2.2 y hy; exact ⟨c, h1, by omega⟩⟩
/-- the numbers that no act touches -/
def kq (f : Nat → Int32) (g : Nat → Int32) : Prop := g 0 = f 0 ∧ g 1 = f 1 ∧ g 2 = f 2 ∧ g 4 = f 4 ∧ g 6 = f 6 ∧ g 7 = f 7
end LGF
theorem li_to {B x q : Nat} {I : ow_I} (h : LI B x q I) : ∃ f : Nat → Int32, rl (x + 1) I f ∧ md_V f ∧ iv B f ∧ lgf (1000 + 40 * B) f ∧ (I q 0 = f 0 ∧ I q 1 = f 1 ∧ I q 2 = f 2 ∧ I q 3 = f 4) ∧ (0 ≤ f 8 → M_isOpenNow 0 (fun _ => f) = true) := by
  obtain ⟨-, hq, ⟨f, hr, hv, hi⟩, hl, -, -, ho⟩ := h
  exact ⟨f, hr, hv, hi, lg_to hr hv hl, ⟨hq.1.trans hr.1.1, hq.2.1.trans hr.1.2.1, hq.2.2.1.trans hr.2.1.1, hq.2.2.2.trans hr.2.1.2.2.1⟩, fun h8 => by
    rw [← low_eq (J := fun _ => f) (m := 0) hr.1.1 hr.1.2.1 hr.1.2.2 hi]
    exact ho (by rw [hr.2.2.2.1.1]; exact h8)⟩
theorem li_of {B x q : Nat} {I : ow_I} {f : Nat → Int32} (hX : au_V x I) (hr : rl (x + 1) I f) (hv : md_V f) (hi : iv B f) (hl : lgf (1000 + 40 * B) f) (hq : I q 0 = f 0 ∧ I q 1 = f 1 ∧ I q 2 = f 2 ∧ I q 3 = f 4) (h1 : x + 666 ≤ q) (h2 : B ≤ 100000) (ho : 0 ≤ f 8 → M_isOpenNow 0 (fun _ => f) = true) : LI B x q I :=
  ⟨hX, ⟨hq.1.trans hr.1.1.symm, hq.2.1.trans hr.1.2.1.symm, hq.2.2.1.trans hr.2.1.1.symm, hq.2.2.2.trans hr.2.1.2.2.1.symm⟩, ⟨f, hr, hv, hi⟩, lg_of hr hv hl, h1, h2, fun h8 => by
    rw [low_eq (J := fun _ => f) (m := 0) hr.1.1 hr.1.2.1 hr.1.2.2 hi]
    exact ho (by rw [← hr.2.2.2.1.1]; exact h8)⟩
