/-! the relation kept: parts that an act leaves alone -/
theorem sumL_c {f g : Nat → Int32} : ∀ n, (∀ e, e < n → g e = f e) → sumL g n = sumL f n := by
  intro n
  induction n with
  | zero => intro _; rfl
  | succ n ih =>
    intro h
    unfold sumL
    rw [ih (fun e he => h e (by omega)), h n (by omega)]
theorem maxL_c {f g : Nat → Int32} : ∀ n, (∀ e, e < n → g e = f e) → maxL g n = maxL f n := by
  intro n
  induction n with
  | zero => intro _; rfl
  | succ n ih =>
    intro h
    unfold maxL
    rw [ih (fun e he => h e (by omega)), h n (by omega)]
theorem lonL_c {f g : Nat → Int32} : ∀ n, (∀ e, e < n → g e = f e) → lonL g n = lonL f n := by
  intro n
  induction n with
  | zero => intro _; rfl
  | succ n ih =>
    intro h
    unfold lonL
    rw [ih (fun e he => h e (by omega)), h n (by omega)]
theorem rb_c {r l g r' l' g' : Nat → Int32} (h : rb r l g) (hn : tn (g 0) ≤ 9) (hr : ∀ j, 1 ≤ j → j ≤ 9 → r' j = r j) (hl : ∀ e, e < 9 → l' e = l e) (hg : ∀ w, w < 15 → g' w = g w) : rb r' l' g' := by
  obtain ⟨⟨h1, h2, h3, h4⟩, h5, h6, h7, h8, h9, h10⟩ := h
  have e0 := hg 0 (by decide)
  have hc : ∀ e, e < tn (g 0) → (fun e => g' (1 + e)) e = (fun e => g (1 + e)) e := fun e he => hg _ (by omega)
  refine ⟨⟨?_, ?_, ?_, ?_⟩, fun e he => ?_, ?_, ?_, ?_, ?_, ?_⟩
  · rw [hr 1 (by decide) (by decide), e0, h1]
  · rw [hr 2 (by decide) (by decide), e0, h2, sumL_c _ hc]
  · rw [hr 3 (by decide) (by decide), e0, h3, maxL_c _ hc]
  · rw [hr 4 (by decide) (by decide), e0, h4, lonL_c _ hc]
  · rw [e0] at he
    rw [hl e (by omega), hg _ (by omega), h5 e he]
  · rw [hr 5 (by decide) (by decide), hg 10 (by decide), h6]
  · rw [hr 6 (by decide) (by decide), hg 11 (by decide), h7]
  · rw [hr 7 (by decide) (by decide), hg 12 (by decide), h8]
  · rw [hr 8 (by decide) (by decide), hg 13 (by decide), h9]
  · rw [hr 9 (by decide) (by decide), hg 14 (by decide), h10]
theorem rb_f {r l g r' l' g' : Nat → Int32} (h : rb r l g) (hn : tn (g 0) ≤ 9) (hr : ∀ j, 1 ≤ j → j ≤ 4 → r' j = r j) (hl : ∀ e, e < 9 → l' e = l e) (hg : ∀ w, w < 10 → g' w = g w) (h6 : r' 5 = g' 10) (h7 : r' 6 = g' 11) (h8 : r' 7 = g' 12) (h9 : r' 8 = g' 13) (h10 : r' 9 = g' 14) : rb r' l' g' := by
  obtain ⟨⟨h1, h2, h3, h4⟩, h5, -⟩ := h
  have e0 := hg 0 (by decide)
  have hc : ∀ e, e < tn (g 0) → (fun e => g' (1 + e)) e = (fun e => g (1 + e)) e := fun e he => hg _ (by omega)
  refine ⟨⟨?_, ?_, ?_, ?_⟩, fun e he => ?_, h6, h7, h8, h9, h10⟩
  · rw [hr 1 (by decide) (by decide), e0, h1]
  · rw [hr 2 (by decide) (by decide), e0, h2, sumL_c _ hc]
  · rw [hr 3 (by decide) (by decide), e0, h3, maxL_c _ hc]
  · rw [hr 4 (by decide) (by decide), e0, h4, lonL_c _ hc]
  · rw [e0] at he
    rw [hl e (by omega), hg _ (by omega), h5 e he]
theorem rY_c {a : Nat} {I J : ow_I} {f g : Nat → Int32} (h : rY a I f) (n : tn (f 6) ≤ 6) (e : g 6 = f 6) (hf : ∀ j, 36 ≤ j → j < 66 → g j = f j) (hI : ∀ b, a + 5 ≤ b → b < a + 11 → J b = I b) : rY a J g := by
  intro i hi w hw
  rw [e] at hi
  rw [hI _ (by omega) (by omega), hf _ (by omega) (by omega)]
  exact h i hi w hw
theorem rQ_c {a : Nat} {I J : ow_I} {f g : Nat → Int32} (h : rQ a I f) (n : tn (f 12) ≤ 20) (e : g 12 = f 12) (hf : ∀ j, 16 ≤ j → j < 36 → g j = f j) (hI : J (a + 4) = I (a + 4)) : rQ a J g := by
  intro i hi
  rw [e] at hi
  rw [hI, hf _ (by omega) (by omega)]
  exact h i hi
theorem rB_c {a : Nat} {I J : ow_I} {f g : Nat → Int32} (h : rB a I f) (hv : md_V f) (e : g 7 = f 7) (hf : ∀ j, 66 ≤ j → j < 366 → g j = f j) (hI : ∀ b, a + 11 ≤ b → b < a + 51 → J b = I b) : rB a J g := by
  intro k hk
  rw [e] at hk
  have h7 := hv.2.2.1.2
  have he := (hv.2.2.2.2.2.2.2.2.2 k hk).2.2
  refine rb_c (h k hk) he (fun j _ _ => by rw [hI _ (by omega) (by omega)]) (fun e _ => by rw [hI _ (by omega) (by omega)]) (fun w hw => hf _ (by omega) (by omega))
/-- one barrel changed, the others not -/
theorem rB_1 {a k0 : Nat} {I J : ow_I} {f g : Nat → Int32} (h : rB a I f) (hv : md_V f) (e : g 7 = f 7) (hf : ∀ j, 66 ≤ j → j < 366 → (j < 66 + 15 * k0 ∨ 81 + 15 * k0 ≤ j) → g j = f j) (hI : ∀ b, a + 11 ≤ b → b < a + 51 → b ≠ a + 11 + 2 * k0 → b ≠ a + 11 + 2 * k0 + 1 → J b = I b)
    (h0 : k0 < tn (f 7) → rb (J (a + 11 + 2 * k0)) (J (a + 11 + 2 * k0 + 1)) (fun w => g (66 + 15 * k0 + w))) : rB a J g := by
  intro k hk
  rw [e] at hk
  have h7 := hv.2.2.1.2
  have he := (hv.2.2.2.2.2.2.2.2.2 k hk).2.2
  by_cases c : k = k0
  · rw [c] at hk ⊢
    exact h0 hk
  · refine rb_c (h k hk) he (fun j _ _ => by rw [hI _ (by omega) (by omega) (by omega) (by omega)]) (fun e _ => by rw [hI _ (by omega) (by omega) (by omega) (by omega)]) (fun w hw => hf _ (by omega) (by omega) (by omega))
/-- one buyer changed -/
theorem rY_1 {a i0 : Nat} {I J : ow_I} {f g : Nat → Int32} (h : rY a I f) (n : tn (f 6) ≤ 6) (e : g 6 = f 6) (hf : ∀ j, 36 ≤ j → j < 66 → (j < 36 + 5 * i0 ∨ 41 + 5 * i0 ≤ j) → g j = f j) (hI : ∀ b, a + 5 ≤ b → b < a + 11 → b ≠ a + 5 + i0 → J b = I b) (h0 : i0 < tn (f 6) → ∀ w, w < 5 → J (a + 5 + i0) w = g (36 + 5 * i0 + w)) : rY a J g := by
  intro i hi w hw
  rw [e] at hi
  by_cases c : i = i0
  · rw [c] at hi ⊢
    exact h0 hi w hw
  · rw [hI _ (by omega) (by omega) (by omega), hf _ (by omega) (by omega) (by omega)]
    exact h i hi w hw
section RLN
variable {a m : Nat} {I J : ow_I}
theorem rl_nod {b : Nat} (h : rl a I (J (m + 1))) (hv : md_V (J (m + 1))) (h8 : 0 ≤ J (m + 1) 8) (hb : b < tn (J (m + 1) 6)) : rl a (K_takeNod a (nI b) I) ((M_nodNow m b J).2 (m + 1)) := by
  have h6 := hv.2.1
  have e1 : K_hasBuyer a (nI b) I = true := (hb_eq h).mpr (nI_lt_of h6.1 hb (by omega))
  have e2 := np_eq h hv h8
  have hnb : ¬ nI b = -1 := nm1 (nI_ge0 (by omega))
  have hn8 := nm1 h8
  obtain ⟨⟨t1, t2, t3⟩, ⟨s1, s2, s3, s4, s5, s6⟩, ⟨c1, c2, c3⟩, ⟨b1, b2, b3, b4⟩, hY, hQ, hB⟩ := h
  simp only [K_takeNod, M_nodNow, M_put, M_of, lt_eq, if_pos e1, e2, tn_nI (show b < 2 ^ 31 by omega)]
  refine ⟨⟨?_, ?_, ?_⟩, ⟨?_, ?_, ?_, ?_, ?_, ?_⟩, ⟨?_, ?_, ?_⟩, ⟨?_, ?_, ?_, ?_⟩, rY_1 (i0 := b) hY h6.2.2 ?_ (fun j _ _ _ => ?_) (fun q _ _ _ => ?_) (fun _ w hw => ?_), rQ_c hQ hv.2.2.2.2.2.1.2 ?_ (fun j _ _ => ?_) ?_, rB_c hB hv ?_ (fun j _ _ => ?_) (fun q _ _ => ?_)⟩
  all_goals (try (simp (disch := omega) only [u_one, rr_u, if_neg, if_pos, if_true]; done))
  all_goals (try (simp (disch := omega) only [u_one, rr_u, if_neg, if_pos, if_true]; assumption))
  all_goals (try (simp (disch := omega) only [u_one, rr_u, if_neg, if_pos, if_true, if_neg hnb, if_neg hn8]; done))
  · by_cases c : w = 4
    · rw [c]
      simp (disch := omega) only [u_one, rr_u, if_neg, if_pos, if_true]
      rw [hY b hb 4 (by decide)]
    · simp (disch := omega) only [u_one, rr_u, if_neg, if_pos, if_true]
      exact hY b hb w hw
end RLN
