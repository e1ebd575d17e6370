/-! what holds of a block is kept; the queue's first barrel is opened -/
theorem sdN_c {f g : Nat → Int32} : ∀ n, (∀ k, k < n → (g (66 + 15 * k + 12) = nI 2 ↔ f (66 + 15 * k + 12) = nI 2)) → sdN g n = sdN f n := by
  intro n
  induction n with
  | zero => intro _; rfl
  | succ n ih =>
    intro h
    have h1 := ih (fun k hk => h k (by omega))
    have h2 := h n (by omega)
    unfold sdN
    rw [h1]
    by_cases c : f (66 + 15 * n + 12) = nI 2
    · rw [if_pos c, if_pos (h2.mpr c)]
    · rw [if_neg c, if_neg (fun z => c (h2.mp z))]
theorem sdN_1 {f g : Nat → Int32} {k0 : Nat} (h0 : ¬ f (66 + 15 * k0 + 12) = nI 2) (h1 : g (66 + 15 * k0 + 12) = nI 2) : ∀ n, k0 < n → (∀ k, k < n → k ≠ k0 → g (66 + 15 * k + 12) = f (66 + 15 * k + 12)) → sdN g n = sdN f n + 1 := by
  intro n
  induction n with
  | zero => intro h; omega
  | succ n ih =>
    intro hk h
    unfold sdN
    by_cases c : n = k0
    · rw [c, if_pos h1, if_neg h0, sdN_c k0 (fun k hk => by rw [h k (by omega) (by omega)])]
    · rw [h n (by omega) c, ih (by omega) (fun k hk => h k (by omega))]
      split <;> rfl
theorem iB_c {g g' : Nat → Int32} (h : iB g) (n : tn (g 0) ≤ 9) (e : ∀ w, w < 15 → g' w = g w) : iB g' := by
  obtain ⟨h1, h2, h3, h4⟩ := h
  refine ⟨by rw [e 10 (by decide)]; exact h1, by rw [e 12 (by decide)]; exact h2, by rw [e 12 (by decide), e 14 (by decide)]; exact h3, fun q hq => ?_⟩
  rw [e 0 (by decide)] at hq
  rw [e _ (by omega)]
  exact h4 q hq
theorem iB_f {g g' : Nat → Int32} (h : iB g) (n : tn (g 0) ≤ 9) (e : ∀ w, w < 11 → g' w = g w) (h2 : ∃ s : Nat, g' 12 = nI s ∧ s ≤ 3) (h3 : g' 12 = nI 2 → ∃ c : Nat, g' 14 = nI c ∧ c ≤ 99999) : iB g' := by
  obtain ⟨h1, -, -, h4⟩ := h
  refine ⟨by rw [e 10 (by decide)]; exact h1, h2, h3, fun q hq => ?_⟩
  rw [e 0 (by decide)] at hq
  rw [e _ (by omega)]
  exact h4 q hq
theorem iH_c {B : Nat} {f g : Nat → Int32} (h : iH B f) (e : ∀ j, j < 6 → g j = f j) : iH B g := by
  unfold iH
  rw [e 0 (by decide), e 1 (by decide), e 2 (by decide), e 3 (by decide), e 4 (by decide), e 5 (by decide)]
  exact h
theorem iY_c {f g : Nat → Int32} (h : iY f) (n : tn (f 6) ≤ 6) (e6 : g 6 = f 6) (e : ∀ i, i < 6 → g (36 + 5 * i) = f (36 + 5 * i)) : iY g := by
  intro i hi
  rw [e6] at hi
  rw [e i (by omega)]
  exact h i hi
theorem iK_c {f g : Nat → Int32} (h : iK f) (hv : md_V f) (e7 : g 7 = f 7) (e : ∀ j, 66 ≤ j → j < 366 → g j = f j) : iK g := by
  intro k hk
  rw [e7] at hk
  have h7 := hv.2.2.1.2
  exact iB_c (h k hk) (hv.2.2.2.2.2.2.2.2.2 k hk).2.2 (fun w hw => e _ (by omega) (by omega))
theorem iK_1 {f g : Nat → Int32} {k0 : Nat} (h : iK f) (hv : md_V f) (e7 : g 7 = f 7) (e : ∀ j, 66 ≤ j → j < 366 → (j < 66 + 15 * k0 ∨ 81 + 15 * k0 ≤ j) → g j = f j) (h0 : k0 < tn (f 7) → iB (fun w => g (66 + 15 * k0 + w))) : iK g := by
  intro k hk
  rw [e7] at hk
  have h7 := hv.2.2.1.2
  by_cases c : k = k0
  · rw [c] at hk ⊢
    exact h0 hk
  · exact iB_c (h k hk) (hv.2.2.2.2.2.2.2.2.2 k hk).2.2 (fun w hw => e _ (by omega) (by omega) (by omega))
theorem iS_c {f g : Nat → Int32} (h : iS f) (n : tn (f 7) ≤ 20) (e13 : g 13 = f 13) (e7 : g 7 = f 7) (e : ∀ k, k < 20 → (g (66 + 15 * k + 12) = nI 2 ↔ f (66 + 15 * k + 12) = nI 2)) : iS g := by
  obtain ⟨c, h1, h2⟩ := h
  refine ⟨c, e13.trans h1, ?_⟩
  rw [e7, sdN_c _ (fun k hk => e k (by omega))]
  exact h2
theorem iO_n {f : Nat → Int32} (h : f 8 = -1) : iO f := by
  intro z
  rw [h] at z
  exact absurd z i_m1
theorem iL_n {f : Nat → Int32} (h : f 10 = -1) : iL f := by
  intro z
  rw [h] at z
  exact absurd z i_m1
theorem nI_ml (a b : Nat) : nI a * nI b = nI (a * b) := (Int32.ofNat_mul a b).symm
section RLD
variable {a m B : Nat} {I J : ow_I}
theorem cost_N {q u : Nat} (hf : J (m + 1) 4 = nI u) (hu : u ≤ 50) (hq : q ≤ 200000) : M_costOfPrice m (nI q) J = nI (q + q * u / 100) := by
  unfold M_costOfPrice
  have h1 : q * u ≤ 200000 * 50 := Nat.mul_le_mul hq hu
  rw [hf, nI_ml, pk_div (by omega) (by decide) (by decide), nI_add]
/-- the next price is small, and who can nod can pay it -/
theorem bid_N (hv : md_V (J (m + 1))) (hi : iv B (J (m + 1))) (h8 : 0 ≤ J (m + 1) 8) : ∃ q : Nat, M_bidNext m J = nI q ∧ q ≤ 100050 := by
  obtain ⟨⟨-, -, ⟨st, e3, -, hst⟩, ⟨fe, e4, hfe⟩, -⟩, hY, hK, -, hL, -⟩ := hi
  unfold M_bidNext
  by_cases c : 0 ≤ J (m + 1) 10
  · obtain ⟨c9, e9, hle⟩ := hL c
    have hlt := rl_lead hv c
    obtain ⟨cu, ecu, hcu⟩ := hY _ hlt
    rw [ecu, tn_nI (by omega)] at hle
    rw [if_pos c, e9, e3, nI_add]
    exact ⟨_, rfl, by omega⟩
  · rw [if_neg c]
    obtain ⟨⟨r, er, -, hr⟩, -⟩ := hK _ (rl_open (a := 0) (I := J) hv h8)
    exact ⟨r, er, by omega⟩
theorem can_N {b : Nat} (hv : md_V (J (m + 1))) (hi : iv B (J (m + 1))) (h8 : 0 ≤ J (m + 1) 8) (hb : b < tn (J (m + 1) 6)) (hr : M_reasonAgainst m b J = 0) : ∃ q : Nat, M_bidNext m J = nI q ∧ q + q * tn (J (m + 1) 4) / 100 ≤ tn (J (m + 1) (36 + 5 * b)) := by
  obtain ⟨q, eq, hq⟩ := bid_N hv hi h8
  obtain ⟨⟨-, -, -, ⟨fe, e4, hfe⟩, -⟩, hY, -⟩ := hi
  obtain ⟨cu, ecu, hcu⟩ := hY b hb
  refine ⟨q, eq, ?_⟩
  have hc := cost_N (m := m) (J := J) e4 hfe (show q ≤ 200000 by omega)
  unfold M_reasonAgainst at hr
  rw [if_pos h8, eq, hc] at hr
  have e36 : M_of m b 0 J = nI cu := ecu
  rw [e36] at hr
  have hqf : q * fe ≤ 100050 * 50 := Nat.mul_le_mul hq hfe
  rw [ecu, e4, tn_nI (by omega), tn_nI (by omega)]
  by_cases c : M_isOpenNow m J = true
  · rw [if_pos c] at hr
    by_cases d : J (m + 1) 10 = nI b
    · rw [if_pos d] at hr
      exact absurd hr (by decide)
    · rw [if_neg d] at hr
      by_cases e : nI (q + q * fe / 100) ≤ nI cu
      · exact (nI_leI (by omega) (by omega)).mp e
      · rw [if_neg e] at hr
        exact absurd hr (by decide)
  · rw [if_neg c] at hr
    exact absurd hr (by decide)
theorem iv_nod {b : Nat} (hv : md_V (J (m + 1))) (hi : iv B (J (m + 1))) (h8 : 0 ≤ J (m + 1) 8) (hb : b < tn (J (m + 1) 6)) (hr : M_reasonAgainst m b J = 0) : iv B ((M_nodNow m b J).2 (m + 1)) := by
  obtain ⟨q, eq, hq⟩ := can_N hv hi h8 hb hr
  have h6 := hv.2.1.2.2
  have h7 := hv.2.2.1.2
  have hko := rl_open (a := 0) (I := J) hv h8
  obtain ⟨hH, hY, hK, hO, hL, hS⟩ := hi
  obtain ⟨o1, o2, -⟩ := hO h8
  have hp := hH.2.1
  simp only [M_nodNow, M_put, M_of, lt_eq]
  refine ⟨iH_c hH (fun j _ => ?_), iY_c hY h6 ?_ (fun i _ => ?_), iK_c hK hv ?_ (fun j _ _ => ?_), fun _ => ⟨?_, 0, ?_, ?_⟩, fun _ => ⟨q, ?_, ?_⟩, iS_c hS h7 ?_ ?_ (fun k _ => ?_)⟩
  all_goals (try (simp (disch := omega) only [u_one, rr_u, if_neg, if_pos, if_true]; done))
  · simp (disch := omega) only [u_one, rr_u, if_neg, if_pos, if_true]
    exact o1
  · simp (disch := omega) only [u_one, rr_u, if_neg, if_pos, if_true]
    obtain ⟨p, ep, p1, p9⟩ := hp
    rw [ep, tn_nI (by omega)]
    omega
  · simp (disch := omega) only [u_one, rr_u, if_neg, if_pos, if_true]
    exact eq
  · simp (disch := omega) only [u_one, rr_u, if_neg, if_pos, if_true]
    rw [tn_nI (by omega)]
    exact hq
theorem iv_q1 (hv : md_V (J (m + 1))) (hi : iv B (J (m + 1))) (h8 : 0 ≤ J (m + 1) 8) (hp : J (m + 1) 11 + nI 1 < J (m + 1) 2) : iv B (ow_u J (m + 1) 11 (J (m + 1) 11 + nI 1) (m + 1)) := by
  have h6 := hv.2.1.2.2
  have h7 := hv.2.2.1.2
  have hko := rl_open (a := 0) (I := J) hv h8
  obtain ⟨hH, hY, hK, hO, hL, hS⟩ := hi
  obtain ⟨o1, q, o2, o3⟩ := hO h8
  obtain ⟨p, ep, p1, p9⟩ := hH.2.1
  rw [ep, tn_nI (by omega)] at o3
  refine ⟨iH_c hH (fun j _ => ?_), iY_c hY h6 ?_ (fun i _ => ?_), iK_c hK hv ?_ (fun j _ _ => ?_), fun _ => ⟨?_, q + 1, ?_, ?_⟩, fun z => ?_, iS_c hS h7 ?_ ?_ (fun k _ => ?_)⟩
  all_goals (try (simp (disch := omega) only [u_one, rr_u, if_neg, if_pos, if_true]; done))
  · simp (disch := omega) only [u_one, rr_u, if_neg, if_pos, if_true]
    exact o1
  · simp (disch := omega) only [u_one, rr_u, if_neg, if_pos, if_true]
    rw [o2, nI_add]
  · simp (disch := omega) only [u_one, rr_u, if_neg, if_pos, if_true]
    rw [o2, ep, nI_add] at hp
    rw [ep, tn_nI (by omega)]
    exact (nI_ltI (by omega) (by omega)).mp hp
  · revert z
    simp (disch := omega) only [u_one, rr_u, if_neg, if_pos, if_true]
    intro z
    exact hL z
/-- a minute more -/
theorem iv_tk (k : Nat) (hi : iv B (J (m + 1))) (hv : md_V (J (m + 1))) : iv (B + k) (ow_u J (m + 1) 5 (J (m + 1) 5 + nI k) (m + 1)) := by
  have h6 := hv.2.1.2.2
  have h7 := hv.2.2.1.2
  have h8b := mdV_8 hv
  have h10b := mdV_10 hv
  obtain ⟨⟨H1, H2, H3, H4, n, H5, H6⟩, hY, hK, hO, hL, hS⟩ := hi
  refine ⟨⟨?_, ?_, ?_, ?_, n + k, ?_, by omega⟩, iY_c hY h6 ?_ (fun i _ => ?_), iK_c hK hv ?_ (fun j _ _ => ?_), fun z => ?_, fun z => ?_, iS_c hS h7 ?_ ?_ (fun k _ => ?_)⟩
  all_goals (try (simp (disch := omega) only [u_one, rr_u, if_neg, if_pos, if_true]; done))
  all_goals (try (simp (disch := omega) only [u_one, rr_u, if_neg, if_pos, if_true]; assumption))
  · simp (disch := omega) only [u_one, rr_u, if_neg, if_pos, if_true]
    rw [H5, nI_add]
  · revert z
    simp (disch := omega) only [u_one, rr_u, if_neg, if_pos, if_true]
    intro z
    exact hO z
  · revert z
    simp (disch := omega) only [u_one, rr_u, if_neg, if_pos, if_true]
    intro z
    exact hL z
theorem iv_t1 (hi : iv B (J (m + 1))) (hv : md_V (J (m + 1))) (hB : B < 2 ^ 30) : iv (B + 1) (ow_u J (m + 1) 5 (J (m + 1) 5 + nI 1) (m + 1)) := iv_tk 1 hi hv
end RLD
