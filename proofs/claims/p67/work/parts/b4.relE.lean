/-! a barrel's bidding ends: what holds of the block; the queue -/
/-- the same, but for the quiet of an open barrel -/
def iw (B : Nat) (f : Nat → Int32) : Prop := iH B f ∧ iY f ∧ iK f ∧ (0 ≤ f 8 → f (66 + 15 * tn (f 8) + 12) = nI 1) ∧ iL f ∧ iS f
theorem iv_w {B : Nat} {f : Nat → Int32} (h : iv B f) : iw B f := ⟨h.1, h.2.1, h.2.2.1, fun z => (h.2.2.2.1 z).1, h.2.2.2.2.1, h.2.2.2.2.2⟩
section RLE
variable {a m B : Nat} {I J : ow_I}
theorem iv_sell (hv : md_V (J (m + 1))) (hi : iw B (J (m + 1))) (h8 : 0 ≤ J (m + 1) 8) (h10 : 0 ≤ J (m + 1) 10) : iv B (M_closeBarrel m J (m + 1)) ∧ sdN (M_closeBarrel m J (m + 1)) (tn (M_closeBarrel m J (m + 1) 7)) = sdN (J (m + 1)) (tn (J (m + 1) 7)) + 1 := by
  have h6 := hv.2.1.2.2
  have h7 := hv.2.2.1.2
  have hko := rl_open (a := 0) (I := J) hv h8
  have hly := rl_lead hv h10
  have he := (hv.2.2.2.2.2.2.2.2.2 _ hko).2.2
  obtain ⟨hH, hY, hK, hO, hL, hS⟩ := hi
  have o1 := hO h8
  obtain ⟨c, e9, hle⟩ := hL h10
  obtain ⟨cu, ecu, hcu⟩ := hY _ hly
  have hke := hK _ hko
  obtain ⟨sc, e13, hsc⟩ := hS
  obtain ⟨fe, e4, hfe⟩ := hH.2.2.2.1
  rw [ecu, e4, tn_nI (by omega), tn_nI (by omega)] at hle
  have hcost := cost_N (m := m) (J := J) e4 hfe (show c ≤ 200000 by omega)
  have hdiv : c * fe / 100 ≤ 99999 := by omega
  generalize hE : J (m + 1) 8 = o at *
  generalize hF : J (m + 1) 10 = y at *
  have hob : tn o < 20 := by omega
  have hyb : tn y < 6 := by omega
  have key : ∀ k, k < 20 → k ≠ tn o → M_closeBarrel m J (m + 1) (66 + 15 * k + 12) = J (m + 1) (66 + 15 * k + 12) := by
    intro k hk hne
    simp only [M_closeBarrel, M_sell, M_put, M_putBarrel, M_of, M_ofBarrel, lt_eq, hE, hF, if_neg (i_ge h10)]
    simp (disch := omega) only [u_one, rr_u, if_neg, if_pos, if_true]
  have key2 : M_closeBarrel m J (m + 1) (66 + 15 * tn o + 12) = nI 2 := by
    simp only [M_closeBarrel, M_sell, M_put, M_putBarrel, M_of, M_ofBarrel, lt_eq, hE, hF, if_neg (i_ge h10)]
    simp (disch := omega) only [u_one, rr_u, if_neg, if_pos, if_true]
  have key7 : M_closeBarrel m J (m + 1) 7 = J (m + 1) 7 := by
    simp only [M_closeBarrel, M_sell, M_put, M_putBarrel, M_of, M_ofBarrel, lt_eq, hE, hF, if_neg (i_ge h10)]
    simp (disch := omega) only [u_one, rr_u, if_neg, if_pos, if_true]
  have hsd : sdN (M_closeBarrel m J (m + 1)) (tn (M_closeBarrel m J (m + 1) 7)) = sdN (J (m + 1)) (tn (J (m + 1) 7)) + 1 := by
    rw [key7]
    exact sdN_1 (k0 := tn o) (by rw [o1]; decide) key2 _ hko (fun k hk hne => key k (by omega) hne)
  refine ⟨⟨?_, ?_, ?_, iO_n ?_, iL_n ?_, ⟨sc + c, ?_, ?_⟩⟩, hsd⟩
  rotate_left 6
  · rw [hsd]
    omega
  all_goals simp only [M_closeBarrel, M_sell, M_put, M_putBarrel, M_of, M_ofBarrel, lt_eq, hE, hF, if_neg (i_ge h10)]
  · refine iH_c hH (fun j _ => ?_)
    simp (disch := omega) only [u_one, rr_u, if_neg, if_pos, if_true]
  · intro i hi
    by_cases d : i = tn y
    · rw [d]
      simp (disch := omega) only [u_one, rr_u, if_neg, if_pos, if_true]
      refine ⟨cu - (c + c * fe / 100), ?_, by omega⟩
      rw [show 36 + 5 * tn y + 0 = 36 + 5 * tn y from rfl, ecu, e9, hcost, nI_sb (by omega)]
    · revert hi
      simp (disch := omega) only [u_one, rr_u, if_neg, if_pos, if_true]
      intro hi
      exact hY i hi
  · refine iK_1 (k0 := tn o) hK hv ?_ (fun j _ _ _ => ?_) (fun _ => ?_)
    · simp (disch := omega) only [u_one, rr_u, if_neg, if_pos, if_true]
    · simp (disch := omega) only [u_one, rr_u, if_neg, if_pos, if_true]
    · refine iB_f hke he (fun w _ => ?_) ⟨2, ?_, by decide⟩ (fun _ => ⟨c, ?_, by omega⟩)
      · simp (disch := omega) only [u_one, rr_u, if_neg, if_pos, if_true]
      · simp (disch := omega) only [u_one, rr_u, if_neg, if_pos, if_true]
      · simp (disch := omega) only [u_one, rr_u, if_neg, if_pos, if_true]
        exact e9
  · simp (disch := omega) only [u_one, rr_u, if_neg, if_pos, if_true]
  · simp (disch := omega) only [u_one, rr_u, if_neg, if_pos, if_true]
  · simp (disch := omega) only [u_one, rr_u, if_neg, if_pos, if_true]
    rw [e13, e9, nI_add]
theorem iv_back (hv : md_V (J (m + 1))) (hi : iw B (J (m + 1))) (h8 : 0 ≤ J (m + 1) 8) (h10 : J (m + 1) 10 = -1) : iv B (M_closeBarrel m J (m + 1)) ∧ sdN (M_closeBarrel m J (m + 1)) (tn (M_closeBarrel m J (m + 1) 7)) = sdN (J (m + 1)) (tn (J (m + 1) 7)) := by
  have h6 := hv.2.1.2.2
  have h7 := hv.2.2.1.2
  have hq := mdV_q hv h8
  have hko := rl_open (a := 0) (I := J) hv h8
  have he := (hv.2.2.2.2.2.2.2.2.2 _ hko).2.2
  obtain ⟨hH, hY, hK, hO, hL, hS⟩ := hi
  have o1 := hO h8
  have hke := hK _ hko
  have hlt : J (m + 1) 10 < 0 := by rw [h10]; decide
  generalize hE : J (m + 1) 8 = o at *
  have hob : tn o < 20 := by omega
  have hst : ∃ x : Int32, (x = nI 3 ∨ x = nI 0) ∧ ∀ j, (j < 6 ∨ j = 6 ∨ j = 7 ∨ j = 13 ∨ (36 ≤ j ∧ j < 366 ∧ j ≠ 66 + 15 * tn o + 11)) → M_closeBarrel m J (m + 1) j = if j = 66 + 15 * tn o + 12 then x else J (m + 1) j := by
    by_cases c : J (m + 1) (66 + 15 * tn o + 11) + nI 1 = nI 3
    · refine ⟨nI 3, Or.inl rfl, fun j hj => ?_⟩
      simp only [M_closeBarrel, M_turnBack, M_putBarrel, M_ofBarrel, lt_eq, hE, if_pos hlt, if_pos c]
      by_cases d : j = 66 + 15 * tn o + 12
      · rw [d]
        simp (disch := omega) only [u_one, rr_u, if_neg, if_pos, if_true]
      · simp (disch := omega) only [u_one, rr_u, if_neg, if_pos, if_true]
    · refine ⟨nI 0, Or.inr rfl, fun j hj => ?_⟩
      simp only [M_closeBarrel, M_turnBack, M_enqueue, M_putBarrel, M_ofBarrel, lt_eq, hE, if_pos hlt, if_neg c]
      by_cases d : j = 66 + 15 * tn o + 12
      · rw [d]
        simp (disch := omega) only [u_one, rr_u, if_neg, if_pos, if_true]
      · simp (disch := omega) only [u_one, rr_u, if_neg, if_pos, if_true]
  obtain ⟨x, hx, hj⟩ := hst
  have e8 : M_closeBarrel m J (m + 1) 8 = -1 := by
    simp only [M_closeBarrel, lt_eq, hE, if_pos hlt]
    simp (disch := omega) only [u_one, rr_u, if_neg, if_pos, if_true]
  have e10 : M_closeBarrel m J (m + 1) 10 = -1 := by
    simp only [M_closeBarrel, lt_eq, hE, if_pos hlt]
    simp (disch := omega) only [u_one, rr_u, if_neg, if_pos, if_true]
  have hx2 : ¬ x = nI 2 := by
    rcases hx with hx | hx
    · rw [hx]; decide
    · rw [hx]; decide
  have hs2 : ∀ k, k < 20 → (M_closeBarrel m J (m + 1) (66 + 15 * k + 12) = nI 2 ↔ J (m + 1) (66 + 15 * k + 12) = nI 2) := by
    intro k hk
    rw [hj _ (by omega)]
    by_cases d : k = tn o
    · rw [d, if_pos rfl, o1]
      exact ⟨fun z => absurd z hx2, fun z => absurd z (by decide)⟩
    · rw [if_neg (by omega)]
  have e7 : M_closeBarrel m J (m + 1) 7 = J (m + 1) 7 := by rw [hj _ (by omega), if_neg (by omega)]
  refine ⟨⟨iH_c hH (fun j _ => by rw [hj _ (by omega), if_neg (by omega)]), iY_c hY h6 (by rw [hj _ (by omega), if_neg (by omega)]) (fun i _ => by rw [hj _ (by omega), if_neg (by omega)]), iK_1 (k0 := tn o) hK hv e7 (fun j _ _ _ => by rw [hj _ (by omega), if_neg (by omega)]) (fun _ => ?_), iO_n e8, iL_n e10, iS_c hS h7 (by rw [hj _ (by omega), if_neg (by omega)]) e7 hs2⟩, ?_⟩
  · refine iB_f hke he (fun w _ => ?_) ?_ ?_
    · show M_closeBarrel m J (m + 1) (66 + 15 * tn o + w) = J (m + 1) (66 + 15 * tn o + w)
      rw [hj _ (by omega), if_neg (by omega)]
    · show ∃ s : Nat, M_closeBarrel m J (m + 1) (66 + 15 * tn o + 12) = nI s ∧ s ≤ 3
      rw [hj _ (by omega), if_pos rfl]
      rcases hx with hx | hx
      · exact ⟨3, hx, by decide⟩
      · exact ⟨0, hx, by decide⟩
    · intro z
      have z : M_closeBarrel m J (m + 1) (66 + 15 * tn o + 12) = nI 2 := z
      rw [hj _ (by omega), if_pos rfl] at z
      exact absurd z hx2
  · rw [e7, sdN_c _ (fun k hk => hs2 k (by omega))]
theorem iw_q1 {x : Int32} (hv : md_V (J (m + 1))) (hi : iv B (J (m + 1))) : iw B (ow_u J (m + 1) 11 x (m + 1)) := by
  have h6 := hv.2.1.2.2
  have h7 := hv.2.2.1.2
  obtain ⟨hH, hY, hK, hO, hL, hS⟩ := hi
  refine ⟨iH_c hH (fun j _ => ?_), iY_c hY h6 ?_ (fun i _ => ?_), iK_c hK hv ?_ (fun j _ _ => ?_), fun z => ?_, fun z => ?_, iS_c hS h7 ?_ ?_ (fun k _ => ?_)⟩
  all_goals (try (simp (disch := omega) only [u_one, rr_u, if_neg, if_pos, if_true]; done))
  · revert z
    simp (disch := omega) only [u_one, rr_u, if_neg, if_pos, if_true]
    intro z
    exact (hO z).1
  · revert z
    simp (disch := omega) only [u_one, rr_u, if_neg, if_pos, if_true]
    intro z
    exact hL z
/-- the class takes a number out of its queue -/
theorem kdq (x : Int32) {p n : Nat} (hp : p < n) (hn : n ≤ 20) (h12 : I a 12 = nI n) (hx : I (a + 4) p = x) (hne : ∀ j, j < n → j ≠ p → ¬ I (a + 4) j = x) : (∀ j, K_dequeue a x I a j = if j = 12 then nI (n - 1) else I a j) ∧ (∀ j, j < n - 1 → K_dequeue a x I (a + 4) j = if j < p then I (a + 4) j else I (a + 4) (j + 1)) := by
  have L : ∀ (f i : Nat) (Y : ow_I), i ≤ n → n - i < f → Y a = I a → (∀ j, Y (a + 4) j = if p ≤ j ∧ j + 1 < i then I (a + 4) (j + 1) else I (a + 4) j) →
      (∀ j, K_dequeue_L4 a x f Y (if i ≤ p then i else i - 1) i a j = if j = 12 then nI (n - 1) else I a j) ∧ (∀ j, j < n - 1 → K_dequeue_L4 a x f Y (if i ≤ p then i else i - 1) i (a + 4) j = if j < p then I (a + 4) j else I (a + 4) (j + 1)) := by
    intro f
    induction f with
    | zero => intro i Y _ h; omega
    | succ f ih =>
      intro i Y hi hf ha hq
      unfold K_dequeue_L4
      rw [ha, h12, tn_nI (by omega)]
      by_cases c : n ≤ i
      · rw [if_pos c, if_neg (show ¬ i ≤ p by omega), lt_eq]
        refine ⟨fun j => ?_, fun j hj => ?_⟩
        · rw [u_one, ha, show i - 1 = n - 1 by omega]
        · rw [rr_u (by omega), hq j]
          by_cases d : j < p
          · rw [if_neg (by omega), if_pos d]
          · rw [if_pos (by omega), if_neg d]
      · have hqi : Y (a + 4) i = I (a + 4) i := by rw [hq i, if_neg (by omega)]
        rw [if_neg c, hqi]
        by_cases d : i = p
        · rw [d, if_pos hx, if_pos (Nat.le_refl _)]
          have h1 := ih (p + 1) Y (by omega) (by omega) ha (fun j => by
            rw [hq j, d]
            by_cases e : p ≤ j ∧ j + 1 < p
            · omega
            · rw [if_neg e, if_neg (by omega)])
          rw [if_neg (by omega), show p + 1 - 1 = p by omega] at h1
          exact h1
        · rw [if_neg (hne i (by omega) d), lt_eq]
          have h1 := ih (i + 1) (ow_u Y (a + 4) (if i ≤ p then i else i - 1) (I (a + 4) i)) (by omega) (by omega) ((rr_u (by omega)).trans ha) (fun j => by
            rw [u_one]
            by_cases e : i ≤ p
            · rw [if_pos e]
              by_cases g : j = i
              · rw [if_pos g, if_neg (by omega), g]
              · rw [if_neg g, hq j, if_neg (by omega), if_neg (by omega)]
            · rw [if_neg e]
              by_cases g : j = i - 1
              · rw [if_pos g, if_pos (by omega), g, show i - 1 + 1 = i by omega]
              · rw [if_neg g, hq j]
                by_cases k : p ≤ j ∧ j + 1 < i
                · rw [if_pos k, if_pos (by omega)]
                · rw [if_neg k, if_neg (by omega)])
          by_cases e : i ≤ p
          · rw [if_pos e]
            rw [if_pos (show i + 1 ≤ p by omega)] at h1
            rw [if_pos e] at h1
            exact h1
          · rw [if_neg e]
            rw [if_neg (show ¬ i + 1 ≤ p by omega), if_neg e, show i + 1 - 1 = i - 1 + 1 by omega] at h1
            exact h1
  have h1 := L 21 0 I (by omega) (by omega) rfl (fun j => by rw [if_neg (by omega)])
  rw [if_pos (Nat.zero_le _)] at h1
  exact h1
end RLE
