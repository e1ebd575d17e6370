/-! the reference's texts: scripts that can be executed -/
theorem le_m1 {x n : Int32} (h6 : 0 ≤ n) (h1 : 1 ≤ tn n) (hn : tn n ≤ 6) (h : nI 0 ≤ x) (h2 : x ≤ n - nI 1) : 0 ≤ x ∧ tn x < tn n := by
  have e : n - nI 1 = nI (tn n - 1) := by rw [← pk_sub (by omega), nI_tn h6]
  rw [e] at h2
  have r := i32_le (a := 0) (by omega) (by omega) h h2
  exact ⟨r.1, by omega⟩
theorem CC_of {n6 : Int32} {f g : Nat → Int32} (h : md_CC n6 f) (e : ∀ k, k < 4 → g k = f k) : md_CC n6 g := by
  unfold md_CC at h ⊢
  rw [e 0 (by omega), e 1 (by omega), e 2 (by omega), e 3 (by omega)]
  exact h
/-- the new command is good, and the others stay -/
theorem C_st {m : Nat} {w : Int32} {J : ow_I} (hC : md_C m J) (h20 : tn (J m 15) < 20) (h2 : 2 ≤ tn (J m 13)) (h10 : tn (J m 13) ≤ 10) (h : md_CC (J (m + 1) 6) (fun k => if k = 0 then w else if k = 1 then J m 13 else J (m + 4) (k - 2))) : md_C m (md_st m w (tn (J m 15)) J).2 := by
  have t := tn_inc hC.1 (by omega)
  unfold md_C
  rw [st_15 h10, rr_st (by omega) (by omega), t.2]
  refine ⟨t.1, by omega, fun c hc => ?_⟩
  by_cases z : c = tn (J m 15)
  · refine CC_of h (fun k hk => ?_)
    rw [st_5 h10, z]
    by_cases k0 : k = 0
    · rw [if_neg (by omega), if_neg (by omega), if_pos (by omega), if_pos k0]
    · by_cases k1 : k = 1
      · rw [if_neg (by omega), if_pos (by omega), if_neg k0, if_pos k1]
      · rw [if_pos (by omega), if_neg k0, if_neg k1, show 13 * tn (J m 15) + k - (13 * tn (J m 15) + 2) = k - 2 by omega]
  · refine CC_of (hC.2.2 c (by omega)) (fun k hk => ?_)
    rw [st_5 h10, if_neg (by omega), if_neg (by omega), if_neg (by omega)]
theorem word_r {m : Nat} {I J : ow_I} (h : M_in (M_wordOf m I) (nI 2) (nI 7) J = true) : 2 ≤ tn (M_wordOf m I) ∧ tn (M_wordOf m I) ≤ 7 ∧ M_wordOf m I = nI (tn (M_wordOf m I)) := by
  have r := in_rng h
  have q := i32_le (a := 2) (b := 7) (by omega) (by omega) r.1 r.2
  exact ⟨q.2.1, q.2.2, (nI_tn q.1).symm⟩
theorem C_cmd {m : Nat} {I : ow_I} (hC : md_C m I) (h6 : 0 ≤ I (m + 1) 6) (h61 : 1 ≤ tn (I (m + 1) 6)) (h66 : tn (I (m + 1) 6) ≤ 6) (h : (M_failsAtCommand m I).1 = false) : md_C m (M_failsAtCommand m I).2 := by
  rw [cmd_eq] at h ⊢
  revert h
  split
  · rename_i hw
    have hw := word_r hw
    split
    · intro h; exact absurd h (by simp [M_fails, lt_eq])
    · rename_i h20
      have hlt : tn (I m 15) < 20 := by have := tn_ne hC.1 h20; have := hC.2.1; omega
      split
      · rename_i h2
        split
        · intro h; exact tf_abs h
        · rename_i hb
          intro _
          have e15 : (M_failsAtBarrel m (ow_u I m 13 (nI 2))).2 m 15 = I m 15 := by rw [fr_brl (by decide), ow_u_k _ _ _ _ (by decide)]
          have n1 := N13_brl (Bool.eq_false_iff.2 hb)
          have n2 := N13b_brl (Bool.eq_false_iff.2 hb)
          have c := C_of (J := (M_failsAtBarrel m (ow_u I m 13 (nI 2))).2) hC e15 (by rw [rr_brl (by omega) (by omega), rr_u (by omega)]) (by rw [rr_brl (by omega) (by omega), rr_u (by omega)])
          rw [← e15]
          refine C_st c (by rw [e15]; exact hlt) n2 n1.2.2 (Or.inl ⟨h2, n1.1, n2, n1.2.2⟩)
      · rename_i h2
        split
        · intro h; exact tf_abs h
        · rename_i hb
          intro _
          have hb := Bool.eq_false_iff.2 hb
          have e : ∀ k, k = 13 ∨ k = 15 → (M_readToken m (M_failsAtRest m (M_wordOf m I) (ow_u I m 13 (nI 2))).2) m k = ow_u I m 13 (nI 2) m k := fun k hk => by rw [fr_readToken (by omega), fr_rest (by omega)]
          have e15 : (M_readToken m (M_failsAtRest m (M_wordOf m I) (ow_u I m 13 (nI 2))).2) m 15 = I m 15 := by rw [e 15 (by omega), ow_u_k _ _ _ _ (by decide)]
          have e13 : (M_readToken m (M_failsAtRest m (M_wordOf m I) (ow_u I m 13 (nI 2))).2) m 13 = nI 2 := by rw [e 13 (by omega), ow_u_s]
          have t2 : tn (nI 2) = 2 := tn_nI (by decide)
          have eo : ∀ a, a ≠ m → a ≠ m + 4 → (M_readToken m (M_failsAtRest m (M_wordOf m I) (ow_u I m 13 (nI 2))).2) a = I a := fun a h h4 => by rw [rr_readToken h, rr_rest h h4, rr_u h]
          have c := C_of hC e15 (by rw [eo (m + 1) (by omega) (by omega)]) (eo (m + 5) (by omega) (by omega))
          have e4 : (M_readToken m (M_failsAtRest m (M_wordOf m I) (ow_u I m 13 (nI 2))).2) (m + 4) = (M_failsAtRest m (M_wordOf m I) (ow_u I m 13 (nI 2))).2 (m + 4) := rr_readToken (by omega)
          rw [← e15]
          refine C_st c (by rw [e15]; exact hlt) (by rw [e13, t2]; omega) (by rw [e13, t2]; omega) ?_
          rw [eo (m + 1) (by omega) (by omega), e13, e4]
          have u1 : ∀ k, (ow_u I m 13 (nI 2)) (m + 1) k = I (m + 1) k := fun k => by rw [rr_u (by omega)]
          generalize ow_u I m 13 (nI 2) = J at hb u1 ⊢
          generalize hwv : M_wordOf m I = w at hb h2 hw ⊢
          obtain ⟨w1, w2, w3⟩ := hw
          generalize tn w = v at w1 w2 w3
          subst w3
          have u4 : ∀ lo hi (K : ow_I), (M_failsAtNumber m 0 lo hi K).1 = false → lo ≤ (M_failsAtNumber m 0 lo hi K).2 (m + 4) 0 ∧ (M_failsAtNumber m 0 lo hi K).2 (m + 4) 0 ≤ hi := fun lo hi K h => nu_rng h
          have h6' : M_failsAtNumber m 0 (nI 0) (J (m + 1) 6 - nI 1) J = M_failsAtNumber m 0 (nI 0) (I (m + 1) 6 - nI 1) J := by rw [u1]
          unfold md_CC
          dsimp only
          simp only [show (0 : Nat) ≠ 1 by decide, show (1 : Nat) ≠ 0 by decide, show (2 : Nat) ≠ 0 by decide, show (2 : Nat) ≠ 1 by decide, show (3 : Nat) ≠ 0 by decide, show (3 : Nat) ≠ 1 by decide, if_false, if_true, show (2 : Nat) - 2 = 0 by decide, show (3 : Nat) - 2 = 1 by decide]
          revert hb
          simp only [M_failsAtRest, M_failsAtBuyerNumber, M_failsAtBarrelNumber, lt_eq, h6']
          split
          · rename_i hv
            intro hb
            have r := le_m1 h6 h61 h66 (u4 _ _ _ hb).1 (u4 _ _ _ hb).2
            exact Or.inr (Or.inl ⟨hv, r⟩)
          · split
            · rename_i hv
              intro hb
              have r := i32_le (a := 1) (b := 200) (by decide) (by decide) (u4 _ _ _ hb).1 (u4 _ _ _ hb).2
              exact Or.inr (Or.inr (Or.inl ⟨hv, r⟩))
            · split
              · rename_i hv
                split
                · intro hb; exact tf_abs hb
                · rename_i hb1
                  split
                  · intro hb; exact tf_abs hb
                  · rename_i hb2
                    intro _
                    have g1 := u4 _ _ _ (Bool.eq_false_iff.2 hb1)
                    have r1 := i32_le (a := 0) (b := 19) (by decide) (by decide) g1.1 g1.2
                    have g2 := nu_rng (Bool.eq_false_iff.2 hb2)
                    have r2 := i32_le (a := 1) (b := 8) (by decide) (by decide) g2.1 g2.2
                    dsimp only
                    have o := @nu_oth m 1 0 (nI 1) (nI 8) (M_failsAtNumber m 0 (nI 0) (nI 19) J).2 (by decide)
                    rw [← o] at r1
                    exact Or.inr (Or.inr (Or.inr (Or.inl ⟨hv, ⟨r1.1, r1.2.2⟩, r2⟩)))
              · split
                · rename_i hv
                  split
                  · intro hb; exact tf_abs hb
                  · rename_i hb1
                    split
                    · intro hb; exact tf_abs hb
                    · rename_i hb2
                      intro _
                      have g1 := u4 _ _ _ (Bool.eq_false_iff.2 hb1)
                      have r1 := le_m1 h6 h61 h66 g1.1 g1.2
                      have g2 := nu_rng (Bool.eq_false_iff.2 hb2)
                      have r2 := i32_le (a := 1) (b := 9999) (by decide) (by decide) g2.1 g2.2
                      dsimp only
                      have o := @nu_oth m 1 0 (nI 1) (nI 9999) (M_failsAtNumber m 0 (nI 0) (I (m + 1) 6 - nI 1) J).2 (by decide)
                      rw [← o] at r1
                      exact Or.inr (Or.inr (Or.inr (Or.inr (Or.inl ⟨hv, r1, r2⟩))))
                · rename_i n3 n4 n5 n6
                  intro hb
                  have r := i32_le (a := 0) (b := 19) (by decide) (by decide) (u4 _ _ _ hb).1 (u4 _ _ _ hb).2
                  refine Or.inr (Or.inr (Or.inr (Or.inr (Or.inr ⟨?_, r.1, r.2.2⟩))))
                  have q : v = 7 := by
                    rcases Nat.lt_or_ge v 7 with z | z
                    · rcases (show v = 2 ∨ v = 3 ∨ v = 4 ∨ v = 5 ∨ v = 6 by omega) with y | y | y | y | y <;> subst y
                      · exact absurd rfl h2
                      · exact absurd rfl n3
                      · exact absurd rfl n4
                      · exact absurd rfl n5
                      · exact absurd rfl n6
                    · omega
                  rw [q]
  · intro h; exact absurd h (by simp [M_fails, lt_eq])
theorem rr_scL {m a : Nat} (h : a ≠ m) (h4 : a ≠ m + 4) (h5 : a ≠ m + 5) : ∀ (n : Nat) (I : ow_I) (i : Nat), (M_failsAtScript_L6 m n I i).2 a = I a := by
  intro n
  induction n with
  | zero => intro I i; rfl
  | succ n ih =>
    intro I i
    simp only [M_failsAtScript_L6, lt_eq]
    (repeat' split) <;> simp only [ih, rr_cmd h h4 h5]
theorem rr_scr {m a : Nat} {I : ow_I} (h : a ≠ m) (h4 : a ≠ m + 4) (h5 : a ≠ m + 5) : (M_failsAtScript m I).2 a = I a := by
  simp only [M_failsAtScript, lt_eq]
  rw [rr_scL h h4 h5, rr_tx h]
theorem fr_scL {m k : Nat} (h : k < 6 ∨ k = 12 ∨ (13 < k ∧ k ≠ 15)) : ∀ (n : Nat) (I : ow_I) (i : Nat), (M_failsAtScript_L6 m n I i).2 m k = I m k := by
  intro n
  induction n with
  | zero => intro I i; rfl
  | succ n ih =>
    intro I i
    simp only [M_failsAtScript_L6, lt_eq]
    (repeat' split) <;> simp only [ih, fr_cmd h]
theorem fr_scr {m k : Nat} {I : ow_I} (h : k < 6 ∨ k = 12 ∨ (13 < k ∧ k ≠ 15)) : (M_failsAtScript m I).2 m k = I m k := by
  simp only [M_failsAtScript, lt_eq]
  rw [fr_scL h, fr_tx (by omega)]
theorem C_scL {m : Nat} : ∀ (n : Nat) (I : ow_I) (i : Nat), md_C m I → 0 ≤ I (m + 1) 6 → 1 ≤ tn (I (m + 1) 6) → tn (I (m + 1) 6) ≤ 6 → 501 - i < n → (M_failsAtScript_L6 m n I i).1 = false → md_C m (M_failsAtScript_L6 m n I i).2 := by
  intro n
  induction n with
  | zero => intro I i _ _ _ _ h; omega
  | succ n ih =>
    intro I i hC h6 h61 h66 hn
    have e : (M_failsAtCommand m I).2 (m + 1) = I (m + 1) := rr_cmd (by omega) (by omega) (by omega)
    simp only [M_failsAtScript_L6, lt_eq]
    (repeat' split)
    · intro _; exact hC
    · intro _; exact hC
    · intro h; exact tf_abs h
    · rename_i hb
      exact ih _ _ (C_cmd hC h6 h61 h66 (Bool.eq_false_iff.2 hb)) (by rw [e]; exact h6) (by rw [e]; exact h61) (by rw [e]; exact h66) (by omega)
theorem C_scr {m : Nat} {I : ow_I} (hv : md_V (I (m + 1))) (h : (M_failsAtScript m I).1 = false) : md_C m (M_failsAtScript m I).2 := by
  revert h
  simp only [M_failsAtScript, lt_eq]
  have e : M_beginText m I (m + 1) = I (m + 1) := rr_tx (by omega)
  have t0 : tn (nI 0) = 0 := rfl
  exact C_scL 502 _ 0 ⟨by rw [fr_tx15]; decide, by rw [fr_tx15, t0]; omega, fun c hc => by rw [fr_tx15, t0] at hc; omega⟩ (by rw [e]; exact hv.2.1.1) (by rw [e]; exact hv.2.1.2.1) (by rw [e]; exact hv.2.1.2.2) (by omega)
