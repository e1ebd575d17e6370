/-! the reference's texts: setups as a whole -/
theorem rr_s37 {m a : Nat} (h : a ≠ m) (h1 : a ≠ m + 1) (h4 : a ≠ m + 4) : ∀ (n : Nat) (I : ow_I), (M_failsAtSetup_L37 m n I).2 a = I a := by
  intro n
  induction n with
  | zero => intro I; rfl
  | succ n ih =>
    intro I
    simp only [M_failsAtSetup_L37, lt_eq]
    (repeat' split) <;> simp only [ih, rr_1st h h1 h4, rr_fails h]
theorem rr_s20 {m a : Nat} (h : a ≠ m) (h1 : a ≠ m + 1) (h4 : a ≠ m + 4) : ∀ (n : Nat) (I : ow_I), (M_failsAtSetup_L20 m n I).2 a = I a := by
  intro n
  induction n with
  | zero => intro I; rfl
  | succ n ih =>
    intro I
    simp only [M_failsAtSetup_L20, lt_eq]
    (repeat' split) <;> simp only [ih, rr_byr h h1 h4, rr_s37 h h1 h4]
theorem rr_set {m a : Nat} {I : ow_I} (h : a ≠ m) (h1 : a ≠ m + 1) (h4 : a ≠ m + 4) : (M_failsAtSetup m I).2 a = I a := by
  simp only [M_failsAtSetup, lt_eq]
  (repeat' split) <;> simp only [rr_s20 h h1 h4, rr_byr h h1 h4, rr_mkt h h1 h4, rr_tx h]
theorem fr_s37 {m k : Nat} (h : k < 6 ∨ k = 12 ∨ 13 < k) : ∀ (n : Nat) (I : ow_I), (M_failsAtSetup_L37 m n I).2 m k = I m k := by
  intro n
  induction n with
  | zero => intro I; rfl
  | succ n ih =>
    intro I
    simp only [M_failsAtSetup_L37, lt_eq]
    (repeat' split) <;> simp (disch := omega) only [ih, fr_1st, fr_fails]
theorem fr_s20 {m k : Nat} (h : k < 6 ∨ k = 12 ∨ 13 < k) : ∀ (n : Nat) (I : ow_I), (M_failsAtSetup_L20 m n I).2 m k = I m k := by
  intro n
  induction n with
  | zero => intro I; rfl
  | succ n ih =>
    intro I
    simp only [M_failsAtSetup_L20, lt_eq]
    (repeat' split) <;> simp (disch := omega) only [ih, fr_byr, fr_s37]
theorem fr_set {m k : Nat} {I : ow_I} (h : k < 6 ∨ k = 12 ∨ (13 < k ∧ k ≠ 15)) : (M_failsAtSetup m I).2 m k = I m k := by
  simp only [M_failsAtSetup, lt_eq]
  (repeat' split) <;> simp (disch := omega) only [fr_s20, fr_byr, fr_mkt, fr_tx]
theorem ae_o {m b k c : Nat} {x : Int32} {I : ow_I} (h : I (m + 1) (66 + 15 * b) = nI c) (hc : c < 9) (hk : k < 66 + 15 * b ∨ 66 + 15 * b + 10 ≤ k) : M_addEel m b x I (m + 1) k = I (m + 1) k := by
  have e : tn (M_ofBarrel m b 0 I) = c := by show tn (I (m + 1) (66 + 15 * b)) = c; rw [h, tn_nI (by omega)]
  simp (disch := omega) only [M_addEel, lt_eq, u_one, M_putBarrel, if_neg, e]
theorem nb_o {m k : Nat} {r : Int32} {I : ow_I} (h7 : tn (I (m + 1) 7) < 20) (h12 : tn (I (m + 1) 12) < 20) (hk : k < 7 ∨ (7 < k ∧ k < 12) ∨ (12 < k ∧ k < 16) ∨ (36 ≤ k ∧ k < 66 + 15 * tn (I (m + 1) 7)) ∨ 66 + 15 * tn (I (m + 1) 7) + 15 ≤ k) : (M_newBarrel m r I).2 (m + 1) k = I (m + 1) k := by
  simp (disch := omega) only [M_newBarrel, M_enqueue, lt_eq, u_one, M_putBarrel, if_neg]
theorem fb_byr {m k : Nat} {I : ow_I} (hB : md_B (I (m + 1))) (hk : 370 ≤ k) : (M_failsAtBuyer m I).2 (m + 1) k = I (m + 1) k := by
  have f1 : ∀ p lo hi (J : ow_I), (M_failsAtNumber m p lo hi J).2 (m + 1) = J (m + 1) := fun p lo hi J => rr_num (by omega) (by omega)
  have f2 : ∀ (J : ow_I), (M_failsAtNext m J).2 (m + 1) = J (m + 1) := fun J => rr_next (by omega)
  have f3 : ∀ c (J : ow_I), (M_fails m c J).2 (m + 1) = J (m + 1) := fun c J => rr_fails (by omega)
  simp only [M_failsAtBuyer, lt_eq]
  (repeat' split) <;> simp only [f1, f2, f3]
  rename_i h6 _ _ _
  have h6 := tn_ne hB.2.1.1 h6
  have := hB.2.1.2
  rw [ab_o (by rw [f1, f1, f1]; omega) (by omega), f1, f1, f1]
theorem fb_1L {m k : Nat} (hk : 370 ≤ k) : ∀ (n : Nat) (I : ow_I) (b i : Nat), md_E (I (m + 1)) b (i - 1) → 1 ≤ i → tn (I m 13) ≤ 10 → (M_failsAtFirstBarrel_L40 m n I b i).2 (m + 1) k = I (m + 1) k := by
  intro n
  induction n with
  | zero => intro I b i _ _ _; rfl
  | succ n ih =>
    intro I b i hE h1 h10
    simp only [M_failsAtFirstBarrel_L40, lt_eq]
    split
    · show (M_failsAtEnd m I).2 (m + 1) k = _
      rw [rr_end (by omega)]
    · have e : ∀ x, (M_addEel m b x I) m = I m := fun x => rr_addEel (by omega)
      have hE' := fun x => @E_add m b (i - 1) x I hE (by omega)
      rw [show i - 1 + 1 = i + 1 - 1 by omega] at hE'
      rw [ih _ _ _ (hE' _) (by omega) (by rw [e]; exact h10), ae_o hE.2.2.2.2.2.2.2.2 (by omega) (by have := hE.2.2.1.2; omega)]
theorem fb_1st {m k : Nat} {I : ow_I} (hB : md_B (I (m + 1))) (hk : 370 ≤ k) : (M_failsAtFirstBarrel m I).2 (m + 1) k = I (m + 1) k := by
  simp only [M_failsAtFirstBarrel, lt_eq]
  (repeat' split)
  · show (M_fails m (nI 3) I).2 (m + 1) k = _
    rw [rr_fails (by omega)]
  · show (M_failsAtBarrel m I).2 (m + 1) k = _
    rw [rr_brl (by omega) (by omega)]
  · rename_i h7 hf
    have hf := Bool.eq_false_iff.2 hf
    have eJ : (M_failsAtBarrel m I).2 (m + 1) = I (m + 1) := rr_brl (by omega) (by omega)
    have h7 := B_lt hB h7
    have n1 := N13_brl hf
    generalize (M_failsAtBarrel m I).2 = J at eJ n1 ⊢
    rw [← eJ] at hB h7 ⊢
    have em : (M_newBarrel m (J (m + 4) 0) J).2 m = J m := rr_newBarrel (by omega)
    rw [fb_1L hk 11 _ _ 1 (by rw [rdNB1]; exact E_new hB h7) (by omega) (by rw [em]; omega)]
    exact nb_o h7 (by rw [hB.2.2.2.2.2.1]; exact h7) (by omega)
theorem fb_s37 {m k : Nat} (hk : 370 ≤ k) : ∀ (n : Nat) (I : ow_I), md_B (I (m + 1)) → (M_failsAtSetup_L37 m n I).2 (m + 1) k = I (m + 1) k := by
  intro n
  induction n with
  | zero => intro I _; rfl
  | succ n ih =>
    intro I hB
    simp only [M_failsAtSetup_L37, lt_eq]
    (repeat' split)
    · exact fb_1st hB hk
    · rename_i h
      rw [ih _ (B_1st hB (Bool.eq_false_iff.2 h)).1, fb_1st hB hk]
    · rfl
    · show (M_fails m (nI 1) I).2 (m + 1) k = _
      rw [rr_fails (by omega)]
    · show (M_fails m (nI 1) I).2 (m + 1) k = _
      rw [rr_fails (by omega)]
theorem fb_s20 {m k : Nat} (hk : 370 ≤ k) : ∀ (n : Nat) (I : ow_I), md_B (I (m + 1)) → (M_failsAtSetup_L20 m n I).2 (m + 1) k = I (m + 1) k := by
  intro n
  induction n with
  | zero => intro I _; rfl
  | succ n ih =>
    intro I hB
    simp only [M_failsAtSetup_L20, lt_eq]
    (repeat' split)
    · exact fb_byr hB hk
    · rw [ih _ (B_byr hB).1, fb_byr hB hk]
    · exact fb_s37 hk _ _ hB
theorem fb_mkt {m k : Nat} {I : ow_I} (hk : 370 ≤ k) : (M_failsAtMarket m I).2 (m + 1) k = I (m + 1) k := by
  have f1 : ∀ p lo hi (J : ow_I), (M_failsAtNumber m p lo hi J).2 (m + 1) = J (m + 1) := fun p lo hi J => rr_num (by omega) (by omega)
  have f2 : ∀ (J : ow_I), (M_failsAtNext m J).2 (m + 1) = J (m + 1) := fun J => rr_next (by omega)
  have f3 : ∀ c (J : ow_I), (M_fails m c J).2 (m + 1) = J (m + 1) := fun c J => rr_fails (by omega)
  simp only [M_failsAtMarket, lt_eq]
  (repeat' split) <;> simp (disch := omega) only [f1, f2, f3, bm_cells, if_neg]
theorem fb_set {m k : Nat} {I : ow_I} (hk : 370 ≤ k) : (M_failsAtSetup m I).2 (m + 1) k = I (m + 1) k := by
  have f : M_beginText m I (m + 1) = I (m + 1) := rr_tx (by omega)
  simp only [M_failsAtSetup, lt_eq]
  (repeat' split)
  · dsimp only
    rw [fb_mkt hk, f]
  · rename_i h _
    dsimp only
    rw [fb_byr (B_mkt (Bool.eq_false_iff.2 h)).1 hk, fb_mkt hk, f]
  · rename_i h _
    rw [fb_s20 hk _ _ (B_byr (B_mkt (Bool.eq_false_iff.2 h)).1).1, fb_byr (B_mkt (Bool.eq_false_iff.2 h)).1 hk, fb_mkt hk, f]
theorem B_s37 {m : Nat} : ∀ (n : Nat) (I : ow_I), md_B (I (m + 1)) → 20 - tn (I (m + 1) 7) < n → (M_failsAtSetup_L37 m n I).1 = false → md_B ((M_failsAtSetup_L37 m n I).2 (m + 1)) ∧ (M_failsAtSetup_L37 m n I).2 (m + 1) 6 = I (m + 1) 6 := by
  intro n
  induction n with
  | zero => intro I _ h; omega
  | succ n ih =>
    intro I hB hn
    simp only [M_failsAtSetup_L37, lt_eq]
    (repeat' split)
    · intro h; exact tf_abs h
    · rename_i h
      have b := B_1st hB (Bool.eq_false_iff.2 h)
      intro hz
      have := b.1.2.2.1.2
      have r := ih _ b.1 (by omega) hz
      rw [b.2.2] at r
      exact r
    · intro _; exact ⟨hB, rfl⟩
    · intro h; exact tf_abs h
    · rename_i h; exact absurd rfl (show ¬ true = true from h)
theorem B_s20 {m : Nat} : ∀ (n : Nat) (I : ow_I), md_B (I (m + 1)) → 1 ≤ tn (I (m + 1) 6) → 6 - tn (I (m + 1) 6) < n → (M_failsAtSetup_L20 m n I).1 = false → md_B ((M_failsAtSetup_L20 m n I).2 (m + 1)) ∧ 1 ≤ tn ((M_failsAtSetup_L20 m n I).2 (m + 1) 6) := by
  intro n
  induction n with
  | zero => intro I _ _ h; omega
  | succ n ih =>
    intro I hB h1 hn
    simp only [M_failsAtSetup_L20, lt_eq]
    (repeat' split)
    · intro h; exact tf_abs h
    · rename_i h
      have e := byr_6 hB (Bool.eq_false_iff.2 h)
      have b := (B_byr hB).1
      have := b.2.1.2
      intro hz
      exact ih _ b (by omega) (by omega) hz
    · intro hz
      have r := B_s37 21 I hB (by omega) hz
      exact ⟨r.1, by rw [r.2]; exact h1⟩
theorem V_set {m : Nat} {I : ow_I} (h : (M_failsAtSetup m I).1 = false) : md_V ((M_failsAtSetup m I).2 (m + 1)) := by
  revert h
  simp only [M_failsAtSetup, lt_eq]
  (repeat' split)
  · intro h; exact tf_abs h
  · intro h; exact tf_abs h
  · rename_i h hb
    intro hz
    have b := B_mkt (Bool.eq_false_iff.2 h)
    have e := byr_6 b.1 (Bool.eq_false_iff.2 hb)
    have r := B_s20 7 _ (B_byr b.1).1 (by omega) (by omega) hz
    exact B_V r.1 r.2
/-- what a copied block holds -/
theorem cb_cells {m f t : Nat} {I : ow_I} (h : f ≠ t) (k : Nat) : M_copyBlock m f t I (m + 1) k = if 370 * t ≤ k ∧ k < 370 * t + 370 then I (m + 1) (370 * f + (k - 370 * t)) else I (m + 1) k := by
  have key : ∀ (n : Nat) (J : ow_I) (i : Nat), 370 - i < n → i ≤ 370 → (∀ k, J (m + 1) k = if 370 * t ≤ k ∧ k < 370 * t + i then I (m + 1) (370 * f + (k - 370 * t)) else I (m + 1) k) → M_copyBlock_L2 m f t n J i (m + 1) k = if 370 * t ≤ k ∧ k < 370 * t + 370 then I (m + 1) (370 * f + (k - 370 * t)) else I (m + 1) k := by
    intro n
    induction n with
    | zero => intro J i h; omega
    | succ n ih =>
      intro J i h1 h2 h3
      simp only [M_copyBlock_L2, lt_eq]
      split
      · rw [h3, show i = 370 by omega]
      · refine ih _ _ (by omega) (by omega) (fun j => ?_)
        rw [u_one]
        split
        · rename_i e
          rw [h3, if_neg (by omega), if_pos (by omega), e, show 370 * t + i - 370 * t = i by omega]
        · rw [h3]
          by_cases c : 370 * t ≤ j ∧ j < 370 * t + i
          · rw [if_pos c, if_pos (by omega)]
          · rw [if_neg c, if_neg (by omega)]
  exact key 371 I 0 (by omega) (by omega) (fun k => by rw [if_neg (by omega)])
theorem rr_cbL {m a f t : Nat} (h : a ≠ m + 1) : ∀ (n : Nat) (I : ow_I) (i : Nat), M_copyBlock_L2 m f t n I i a = I a := by
  intro n
  induction n with
  | zero => intro I i; rfl
  | succ n ih =>
    intro I i
    simp only [M_copyBlock_L2, lt_eq]
    (repeat' split) <;> simp only [ih, rr_u h]
theorem rr_cb {m a f t : Nat} {I : ow_I} (h : a ≠ m + 1) : M_copyBlock m f t I a = I a := rr_cbL h _ _ _
theorem fr_thr {m k : Nat} {b : Bool} {w : Int32} {I : ow_I} (h : k ≠ 18) : (M_throwsIf m b w I).2 m k = I m k := by
  simp only [M_throwsIf, lt_eq]
  split
  · exact ow_u_k _ _ _ _ h _
  · rfl
theorem rr_thr {m a : Nat} {b : Bool} {w : Int32} {I : ow_I} (h : a ≠ m) : (M_throwsIf m b w I).2 a = I a := by
  simp only [M_throwsIf, lt_eq]
  split
  · exact rr_u h
  · rfl
theorem thr_b {m : Nat} {b : Bool} {w : Int32} {I : ow_I} : (M_throwsIf m b w I).1 = b := by
  simp only [M_throwsIf, lt_eq]
  split <;> rfl
theorem in_rng {v lo hi : Int32} {I : ow_I} (h : M_in v lo hi I = true) : lo ≤ v ∧ v ≤ hi := by
  unfold M_in at h
  split at h
  · exact absurd h (by decide)
  · split at h
    · exact absurd h (by decide)
    · exact ⟨i_nlt (by assumption), i_nlt (by assumption)⟩
