/-! a market copied: what was related to the one is related to the other -/
section RLI
variable {a o m B : Nat} {I J : ow_I}
theorem cpB_r {b o e : Nat} {I : ow_I} (hd : b + 1 < o ∨ o + 1 < b) (h1 : e ≠ b) (h2 : e ≠ b + 1) : B_copyFrom b o I e = I e := by
  simp only [B_copyFrom, lt_eq]
  simp (disch := omega) only [rr_u, ow_cp_a]
theorem cpB_1 {b o j : Nat} {I : ow_I} (hd : b + 1 < o ∨ o + 1 < b) (h1 : 1 ≤ j) (h2 : j ≤ 9) : B_copyFrom b o I b j = I o j := by
  simp only [B_copyFrom, lt_eq]
  obtain rfl | rfl | rfl | rfl | rfl | rfl | rfl | rfl | rfl : j = 1 ∨ j = 2 ∨ j = 3 ∨ j = 4 ∨ j = 5 ∨ j = 6 ∨ j = 7 ∨ j = 8 ∨ j = 9 := by omega
  all_goals simp (disch := omega) only [u_one, rr_u, ow_cp_a, if_neg, if_true]
theorem cpB_2 {b o j : Nat} {I : ow_I} (hd : b + 1 < o ∨ o + 1 < b) (h2 : j < 9) : B_copyFrom b o I (b + 1) j = I (o + 1) j := by
  simp only [B_copyFrom, lt_eq]
  simp (disch := omega) only [rr_u, ow_cp_in]
theorem cpY_r {b o e : Nat} {I : ow_I} (h1 : e ≠ b) : Y_copyFrom b o I e = I e := by
  simp only [Y_copyFrom, lt_eq]
  simp (disch := omega) only [rr_u]
theorem cpY_1 {b o j : Nat} {I : ow_I} (hd : b ≠ o) (h2 : j < 5) : Y_copyFrom b o I b j = I o j := by
  simp only [Y_copyFrom, lt_eq]
  obtain rfl | rfl | rfl | rfl | rfl : j = 0 ∨ j = 1 ∨ j = 2 ∨ j = 3 ∨ j = 4 := by omega
  all_goals simp (disch := omega) only [u_one, rr_u, if_neg, if_true]
theorem cp108 (hd : o + 51 ≤ a ∨ a + 51 ≤ o) : ∀ (n : Nat) (Y : ow_I) (i : Nat), tn (Y a 10) ≤ 20 → tn (Y a 10) < n + i → i ≤ tn (Y a 10) →
    (∀ b, b ≠ a → b ≠ a + 4 → (b < a + 11 ∨ a + 51 ≤ b) → K_copyFrom_L108 a o n Y i b = Y b) ∧
    (∀ j, K_copyFrom_L108 a o n Y i a j = if 12 ≤ j ∧ j ≤ 16 then Y o j else Y a j) ∧ (∀ j, j < 20 → K_copyFrom_L108 a o n Y i (a + 4) j = Y (o + 4) j) ∧
    (∀ k, i ≤ k → k < tn (Y a 10) → (∀ j, 1 ≤ j → j ≤ 9 → K_copyFrom_L108 a o n Y i (a + 11 + 2 * k) j = Y (o + 11 + 2 * k) j) ∧ ∀ e, e < 9 → K_copyFrom_L108 a o n Y i (a + 11 + 2 * k + 1) e = Y (o + 11 + 2 * k + 1) e) ∧
    (∀ k, k < i → K_copyFrom_L108 a o n Y i (a + 11 + 2 * k) = Y (a + 11 + 2 * k) ∧ K_copyFrom_L108 a o n Y i (a + 11 + 2 * k + 1) = Y (a + 11 + 2 * k + 1)) := by
  intro n
  induction n with
  | zero => intro Y i _ h1 h2; omega
  | succ n ih =>
    intro Y i hN h1 h2
    unfold K_copyFrom_L108
    by_cases c : tn (Y a 10) ≤ i
    · rw [if_pos c]
      simp only [lt_eq]
      refine ⟨fun b g1 g2 g3 => ?_, fun j => ?_, fun j hj => ?_, fun k g1 g2 => by omega, fun k hk => ⟨?_, ?_⟩⟩
      · simp (disch := omega) only [rr_u, ow_cp_a]
      · by_cases d : 12 ≤ j ∧ j ≤ 16
        · rw [if_pos d]
          obtain rfl | rfl | rfl | rfl | rfl : j = 12 ∨ j = 13 ∨ j = 14 ∨ j = 15 ∨ j = 16 := by omega
          all_goals simp (disch := omega) only [u_one, rr_u, ow_cp_a, if_neg, if_true]
        · rw [if_neg d]
          simp (disch := omega) only [u_one, rr_u, ow_cp_a, if_neg]
      · simp (disch := omega) only [rr_u, ow_cp_in]
      · simp (disch := omega) only [rr_u, ow_cp_a]
      · simp (disch := omega) only [rr_u, ow_cp_a]
    · rw [if_neg c, lt_eq]
      have hr : ∀ e, e ≠ a + 11 + 2 * i → e ≠ a + 11 + 2 * i + 1 → B_copyFrom (a + 11 + 2 * i) (o + 11 + 2 * i) Y e = Y e := fun e g1 g2 => cpB_r (by omega) g1 g2
      have ha := hr a (by omega) (by omega)
      obtain ⟨q1, q2, q3, q4, q5⟩ := ih (B_copyFrom (a + 11 + 2 * i) (o + 11 + 2 * i) Y) (i + 1) (by rw [ha]; exact hN) (by rw [ha]; omega) (by rw [ha]; omega)
      rw [ha] at q4
      refine ⟨fun b g1 g2 g3 => ?_, fun j => ?_, fun j hj => ?_, fun k g1 g2 => ?_, fun k hk => ⟨?_, ?_⟩⟩
      · rw [q1 b g1 g2 g3, hr b (by omega) (by omega)]
      · rw [q2 j, ha, hr o (by omega) (by omega)]
      · rw [q3 j hj, hr _ (by omega) (by omega)]
      · by_cases d : k = i
        · rw [d]
          have q6 := q5 i (by omega)
          refine ⟨fun j g3 g4 => ?_, fun e he => ?_⟩
          · rw [q6.1, cpB_1 (by omega) g3 g4]
          · rw [q6.2, cpB_2 (by omega) he]
        · have q6 := q4 k (by omega) g2
          refine ⟨fun j g3 g4 => ?_, fun e he => ?_⟩
          · rw [q6.1 j g3 g4, hr _ (by omega) (by omega)]
          · rw [q6.2 e he, hr _ (by omega) (by omega)]
      · rw [(q5 k (by omega)).1, hr _ (by omega) (by omega)]
      · rw [(q5 k (by omega)).2, hr _ (by omega) (by omega)]
theorem cp69 (hd : o + 51 ≤ a ∨ a + 51 ≤ o) : ∀ (n : Nat) (Y : ow_I) (i : Nat), tn (Y a 8) ≤ 6 → tn (Y o 10) ≤ 20 → tn (Y a 8) < n + i → i ≤ tn (Y a 8) →
    (∀ b, b ≠ a → b ≠ a + 4 → (b < a + 5 ∨ a + 51 ≤ b) → K_copyFrom_L69 a o n Y i b = Y b) ∧
    (∀ j, K_copyFrom_L69 a o n Y i a j = if j = 10 ∨ (12 ≤ j ∧ j ≤ 16) then Y o j else Y a j) ∧ (∀ j, j < 20 → K_copyFrom_L69 a o n Y i (a + 4) j = Y (o + 4) j) ∧
    (∀ k, k < tn (Y o 10) → (∀ j, 1 ≤ j → j ≤ 9 → K_copyFrom_L69 a o n Y i (a + 11 + 2 * k) j = Y (o + 11 + 2 * k) j) ∧ ∀ e, e < 9 → K_copyFrom_L69 a o n Y i (a + 11 + 2 * k + 1) e = Y (o + 11 + 2 * k + 1) e) ∧
    (∀ k, i ≤ k → k < tn (Y a 8) → ∀ j, j < 5 → K_copyFrom_L69 a o n Y i (a + 5 + k) j = Y (o + 5 + k) j) ∧ (∀ k, k < i → K_copyFrom_L69 a o n Y i (a + 5 + k) = Y (a + 5 + k)) := by
  intro n
  induction n with
  | zero => intro Y i _ _ h1 h2; omega
  | succ n ih =>
    intro Y i h6 hN h1 h2
    unfold K_copyFrom_L69
    by_cases c : tn (Y a 8) ≤ i
    · rw [if_pos c, lt_eq]
      have e10 : ow_u Y a 10 (Y o 10) a 10 = Y o 10 := ow_u_s _ _ _ _
      obtain ⟨q1, q2, q3, q4, q5⟩ := @cp108 a o hd 21 (ow_u Y a 10 (Y o 10)) 0 (by rw [e10]; exact hN) (by rw [e10]; omega) (by omega)
      rw [e10] at q4
      refine ⟨fun b g1 g2 g3 => ?_, fun j => ?_, fun j hj => ?_, fun k g1 => ?_, fun k g1 g2 => by omega, fun k hk => ?_⟩
      · rw [q1 b g1 g2 (by omega), rr_u g1]
      · rw [q2 j]
        by_cases d : 12 ≤ j ∧ j ≤ 16
        · rw [if_pos d, if_pos (Or.inr d), rr_u (by omega)]
        · rw [if_neg d, u_one]
          by_cases e : j = 10
          · rw [if_pos e, if_pos (Or.inl e), e]
          · rw [if_neg e, if_neg (by omega)]
      · rw [q3 j hj, rr_u (by omega)]
      · have q6 := q4 k (Nat.zero_le _) g1
        refine ⟨fun j g3 g4 => ?_, fun e he => ?_⟩
        · rw [q6.1 j g3 g4, rr_u (by omega)]
        · rw [q6.2 e he, rr_u (by omega)]
      · rw [q1 _ (by omega) (by omega) (by omega), rr_u (by omega)]
    · rw [if_neg c, lt_eq]
      have hr : ∀ e, e ≠ a + 5 + i → Y_copyFrom (a + 5 + i) (o + 5 + i) Y e = Y e := fun e g1 => cpY_r g1
      have ha := hr a (by omega)
      have ho := hr o (by omega)
      obtain ⟨q1, q2, q3, q4, q5, q6⟩ := ih (Y_copyFrom (a + 5 + i) (o + 5 + i) Y) (i + 1) (by rw [ha]; exact h6) (by rw [ho]; exact hN) (by rw [ha]; omega) (by rw [ha]; omega)
      rw [ha] at q5
      rw [ho] at q4
      refine ⟨fun b g1 g2 g3 => ?_, fun j => ?_, fun j hj => ?_, fun k g1 => ?_, fun k g1 g2 j hj => ?_, fun k hk => ?_⟩
      · rw [q1 b g1 g2 g3, hr b (by omega)]
      · rw [q2 j, ha, ho]
      · rw [q3 j hj, hr _ (by omega)]
      · have q7 := q4 k g1
        refine ⟨fun j g3 g4 => ?_, fun e he => ?_⟩
        · rw [q7.1 j g3 g4, hr _ (by omega)]
        · rw [q7.2 e he, hr _ (by omega)]
      · by_cases d : k = i
        · rw [d, q6 i (by omega), cpY_1 (by omega) hj]
        · rw [q5 k (by omega) g2 j hj, hr _ (by omega)]
      · rw [q6 k (by omega), hr _ (by omega)]
theorem rl_cp {f : Nat → Int32} (h : rl o I f) (hv : md_V f) (hd : o + 51 ≤ a ∨ a + 51 ≤ o) : rl a (K_copyFrom a o I) f := by
  have h6 := hv.2.1.2.2
  have h7 := hv.2.2.1.2
  have h12 := hv.2.2.2.2.2.1.2
  obtain ⟨⟨t1, t2, t3⟩, ⟨s1, s2, s3, s4, s5, s6⟩, ⟨c1, c2, c3⟩, ⟨b1, b2, b3, b4⟩, hY, hQ, hB⟩ := h
  simp only [K_copyFrom, T_copyFrom, lt_eq]
  generalize hI8 : ow_u (ow_u (ow_u (ow_u (ow_u (ow_u (ow_u (ow_u (ow_u (ow_u I (a + 1) 0 _) (a + 1) 1 _) (a + 1) 2 _) a 1 _) a 2 _) a 3 _) a 4 _) a 5 _) a 6 _) a 8 _ = I8
  have r : ∀ b, b ≠ a → b ≠ a + 1 → I8 b = I b := fun b g1 g2 => by
    rw [← hI8]
    simp (disch := omega) only [rr_u]
  have r1 : ∀ j, j < 3 → I8 (a + 1) j = I (o + 1) j := fun j hj => by
    rw [← hI8]
    obtain rfl | rfl | rfl : j = 0 ∨ j = 1 ∨ j = 2 := by omega
    all_goals simp (disch := omega) only [u_one, rr_u, if_neg, if_true]
  have r2 : ∀ j, (1 ≤ j ∧ j ≤ 6) ∨ j = 8 → I8 a j = I o j := fun j hj => by
    rw [← hI8]
    obtain rfl | rfl | rfl | rfl | rfl | rfl | rfl : j = 1 ∨ j = 2 ∨ j = 3 ∨ j = 4 ∨ j = 5 ∨ j = 6 ∨ j = 8 := by omega
    all_goals simp (disch := omega) only [u_one, rr_u, if_neg, if_true]
  have e8 : I8 a 8 = f 6 := (r2 8 (by omega)).trans c1
  have e10 : I8 o 10 = f 7 := by rw [r o (by omega) (by omega)]; exact c2
  obtain ⟨q1, q2, q3, q4, q5, q6⟩ := @cp69 a o hd 7 I8 0 (by rw [e8]; exact h6) (by rw [e10]; exact h7) (by rw [e8]; omega) (by omega)
  rw [e8] at q5
  rw [e10] at q4
  have hT := q1 (a + 1) (by omega) (by omega) (by omega)
  have ro := r o (by omega) (by omega)
  refine ⟨⟨?_, ?_, ?_⟩, ⟨?_, ?_, ?_, ?_, ?_, ?_⟩, ⟨?_, ?_, ?_⟩, ⟨?_, ?_, ?_, ?_⟩, fun i hi w hw => ?_, fun i hi => ?_, fun k hk => ?_⟩
  · rw [hT, r1 0 (by decide)]; exact t1
  · rw [hT, r1 1 (by decide)]; exact t2
  · rw [hT, r1 2 (by decide)]; exact t3
  · rw [q2, if_neg (by decide), r2 1 (by omega)]; exact s1
  · rw [q2, if_neg (by decide), r2 2 (by omega)]; exact s2
  · rw [q2, if_neg (by decide), r2 3 (by omega)]; exact s3
  · rw [q2, if_neg (by decide), r2 4 (by omega)]; exact s4
  · rw [q2, if_neg (by decide), r2 5 (by omega)]; exact s5
  · rw [q2, if_neg (by decide), r2 6 (by omega)]; exact s6
  · rw [q2, if_neg (by decide)]; exact e8
  · rw [q2, if_pos (by decide), ro]; exact c2
  · rw [q2, if_pos (by decide), ro]; exact c3
  · rw [q2, if_pos (by decide), ro]; exact b1
  · rw [q2, if_pos (by decide), ro]; exact b2
  · rw [q2, if_pos (by decide), ro]; exact b3
  · rw [q2, if_pos (by decide), ro]; exact b4
  · rw [q5 i (Nat.zero_le _) hi w hw, r _ (by omega) (by omega)]
    exact hY i hi w hw
  · rw [q3 i (by omega), r _ (by omega) (by omega)]
    exact hQ i hi
  · have q7 := q4 k hk
    refine rb_c (hB k hk) (hv.2.2.2.2.2.2.2.2.2 k hk).2.2 (fun j g1 g2 => ?_) (fun e he => ?_) (fun w _ => rfl)
    · rw [q7.1 j g1 g2, r _ (by omega) (by omega)]
    · rw [q7.2 e he, r _ (by omega) (by omega)]
/-- only the market's own rows count, and the block's own cells -/
theorem rl_I {f g : Nat → Int32} (h : rl a I f) (hv : md_V f) (e : ∀ b, a ≤ b → b < a + 51 → J b = I b) (eg : ∀ j, j < 366 → g j = f j) : rl a J g := by
  have h6 := hv.2.1.2.2
  have h7 := hv.2.2.1.2
  obtain ⟨⟨t1, t2, t3⟩, ⟨s1, s2, s3, s4, s5, s6⟩, ⟨c1, c2, c3⟩, ⟨b1, b2, b3, b4⟩, hY, hQ, hB⟩ := h
  have ea := e a (by omega) (by omega)
  have e1 := e (a + 1) (by omega) (by omega)
  refine ⟨⟨?_, ?_, ?_⟩, ⟨?_, ?_, ?_, ?_, ?_, ?_⟩, ⟨?_, ?_, ?_⟩, ⟨?_, ?_, ?_, ?_⟩, rY_c hY h6 (eg 6 (by omega)) (fun j _ _ => eg j (by omega)) (fun q _ _ => e q (by omega) (by omega)), rQ_c hQ hv.2.2.2.2.2.1.2 (eg 12 (by omega)) (fun j _ _ => eg j (by omega)) (e _ (by omega) (by omega)), rB_c hB hv (eg 7 (by omega)) (fun j _ _ => eg j (by omega)) (fun q _ _ => e q (by omega) (by omega))⟩
  all_goals (first | rw [e1, eg _ (by omega)] | rw [ea, eg _ (by omega), eg _ (by omega)] | rw [ea, eg _ (by omega)])
  all_goals assumption
end RLI
