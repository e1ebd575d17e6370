/-! the reference's calls: what they ask for -/
theorem le_mn {x n : Int32} (h6 : 0 ≤ n) (h1 : 1 ≤ tn n) (hn : tn n ≤ 20) (h : nI 0 ≤ x) (h2 : x ≤ n - nI 1) : 0 ≤ x ∧ tn x < tn n := by
  have e : n - nI 1 = nI (tn n - 1) := by rw [← pk_sub (by omega), nI_tn h6]
  rw [e] at h2
  have r := i32_le (a := 0) (by omega) (by omega) h h2
  exact ⟨r.1, by omega⟩
theorem lB_e {m : Nat} {b : Int32} {I : ow_I} (hv : md_V (I (m + 1))) (h : (M_lacksBarrel m b I).1 = false) : 0 ≤ M_ofBarrel m (tn b) 0 (M_lacksBarrel m b I).2 ∧ 1 ≤ tn (M_ofBarrel m (tn b) 0 (M_lacksBarrel m b I).2) ∧ tn (M_ofBarrel m (tn b) 0 (M_lacksBarrel m b I).2) ≤ 9 ∧ tn b < 20 := by
  have r := lB_1 hv h
  have e := hv.2.2.2.2.2.2.2.2.2 _ r.2
  have : M_ofBarrel m (tn b) 0 (M_lacksBarrel m b I).2 = I (m + 1) (66 + 15 * tn b) := by
    show (M_lacksBarrel m b I).2 (m + 1) (66 + 15 * tn b) = _
    rw [lB_A]
  rw [this]
  exact ⟨e.1, e.2.1, e.2.2, by have := hv.2.2.1; omega⟩
theorem V_cb {m t : Nat} {I : ow_I} (hv : md_V (I (m + 1))) (ht : 1 ≤ t) : md_V (M_copyBlock m 0 t I (m + 1)) := V_blk hv (fun k hk => by rw [cb_cells (by omega), if_neg (by omega)])
theorem V_cbk {m f : Nat} {I : ow_I} (hv : md_V (fun k => I (m + 1) (370 * f + k))) (hf : 1 ≤ f) : md_V (M_copyBlock m f 0 I (m + 1)) := V_blk hv (fun k hk => by rw [cb_cells (by omega), if_pos (by omega)]; rfl)
theorem F_0 {m k : Nat} {x : Int32} {I : ow_I} (hk : k = 3) : md_F m I (ow_u I (m + 1) k x) := F_s F_r _ (by omega) (by omega) (by omega)
theorem nod_h8 {m b : Nat} {J : ow_I} (ho : 0 ≤ J m 1) (hk : 0 ≤ J m 2) (hv : md_V (J (m + 1))) (h : M_reasonAgainst m b J ≤ 0) : ¬ 0 ≤ M_keep m 0 J (m + 1) 10 → 0 ≤ M_keep m 0 J (m + 1) 8 ∧ tn (M_keep m 0 J (m + 1) 8) < 20 := by
  intro _
  rw [keep_0 (k := 8) ho hk (Or.inl rfl) (by omega)]
  exact ⟨RA_8 h, mdV_8' hv⟩
theorem wd_h {m b : Nat} {J : ow_I} (ho : 0 ≤ J m 1) (hk : 0 ≤ J m 2) (hv : md_V (J (m + 1))) (hb : b < tn (J (m + 1) 7)) (h : M_isWaiting m b J = true) : ∃ p, p < tn (M_keep m 0 J (m + 1) 12) ∧ M_keep m 0 J (m + 1) (16 + p) = nI b := by
  obtain ⟨p, h1, h2⟩ := V_wait hv hb h
  have := hv.2.2.2.2.2.1
  refine ⟨p, ?_, ?_⟩
  · rw [keep_0 ho hk (Or.inl rfl) (by omega)]; exact h1
  · rw [keep_0 ho hk (Or.inl rfl) (by omega)]; exact h2
theorem spl_h {m b e : Nat} {J : ow_I} (ho : 0 ≤ J m 1) (hk : 0 ≤ J m 2) (hv : md_V (J (m + 1))) (hb : b < tn (J (m + 1) 7)) (he : e ≤ 8) (h : M_canSplit m b e J = true) : b < 20 ∧ 0 ≤ M_ofBarrel m b 0 (M_keep m 0 J) ∧ tn (M_ofBarrel m b 0 (M_keep m 0 J)) ≤ 9 ∧ e < tn (M_ofBarrel m b 0 (M_keep m 0 J)) ∧ tn (M_keep m 0 J (m + 1) 7) < 20 ∧ b < tn (M_keep m 0 J (m + 1) 7) := by
  have h20 := hv.2.2.1.2
  have e0 : M_ofBarrel m b 0 (M_keep m 0 J) = M_ofBarrel m b 0 J := by
    show M_keep m 0 J (m + 1) (66 + 15 * b + 0) = J (m + 1) (66 + 15 * b + 0)
    rw [keep_0 ho hk (Or.inl rfl) (by omega)]
  have e7 : M_keep m 0 J (m + 1) 7 = J (m + 1) 7 := keep_0 ho hk (Or.inl rfl) (by omega)
  have q := hv.2.2.2.2.2.2.2.2.2 _ hb
  have c := (lt_tn (cS h).2.1 (nI_ge0 (by omega))).2
  rw [tn_nI (by omega)] at c
  rw [e0, e7]
  exact ⟨by omega, q.1, q.2.2, c, cS7 hv h, hb⟩
theorem ck7 {m : Nat} {J : ow_I} (ho : 0 ≤ J m 1) (hk : 0 ≤ J m 2) (hv : md_V (J (m + 1))) (h : ¬ J (m + 1) 7 = nI 20) : tn (M_keep m 0 J (m + 1) 7) < 20 := by
  rw [keep_0 ho hk (Or.inl rfl) (by omega)]
  exact B20 hv h
theorem tot_L {m b : Nat} {I J : ow_I} (h : J (m + 1) = I (m + 1)) : ∀ (n : Nat) (s : Int32) (e : Nat), M_totalOf_L4 m b n J s e = M_totalOf_L4 m b n I s e := by
  intro n
  induction n with
  | zero => intro s e; rfl
  | succ n ih =>
    intro s e
    have e1 : ∀ k, M_ofBarrel m b k J = M_ofBarrel m b k I := fun k => by
      show J (m + 1) _ = I (m + 1) _
      rw [h]
    by_cases c : tn (M_ofBarrel m b 0 I) ≤ e
    · simp only [M_totalOf_L4, e1, if_pos c]
    · simp only [M_totalOf_L4, M_lengthOf, e1, if_neg c, ih]
theorem tot_row {m b : Nat} {I J : ow_I} (h : J (m + 1) = I (m + 1)) : M_totalOf m b J = M_totalOf m b I := tot_L h _ _ _
/-! the reference's input -/
theorem aw_L {m : Nat} {w : Int32} : ∀ (n : Nat) (I : ow_I) (s : Int32) (c : Nat), s = nI (8 * c) - 8 → c ≤ 4 → 0 ≤ I m 5 → tn (I m 5) + c ≤ 500 → c < n → 0 ≤ M_appendWord_L3 m w n I s m 5 ∧ tn (M_appendWord_L3 m w n I s m 5) = tn (I m 5) + c := by
  intro n
  induction n with
  | zero => intro I s c _ _ _ _ h; omega
  | succ n ih =>
    intro I s c hs hc h0 hl hn
    simp only [M_appendWord_L3, lt_eq]
    split
    · rename_i h
      have : c = 0 := by
        rcases Nat.eq_zero_or_pos c with z | z
        · exact z
        · exfalso
          rw [hs] at h
          rcases (show c = 1 ∨ c = 2 ∨ c = 3 ∨ c = 4 by omega) with y | y | y | y <;> subst y <;> exact absurd h (by decide)
      subst this
      exact ⟨h0, rfl⟩
    · rename_i h
      have hc1 := sh8_c hs h
      have t := tn_inc h0 (by omega)
      generalize ((w >>> (s &&& 31)).toInt8.toInt32).toInt8.toInt32 = X
      have e : ow_u (ow_u I (m + 3) (tn (I m 5)) X) m 5 (ow_u I (m + 3) (tn (I m 5)) X m 5 + nI 1) m 5 = I m 5 + nI 1 := by
        rw [ow_u_s, rr_u (by omega)]
      have r := ih (ow_u (ow_u I (m + 3) (tn (I m 5)) X) m 5 (ow_u I (m + 3) (tn (I m 5)) X m 5 + nI 1)) (s + Int32.ofInt (-8)) (c - 1) (by rw [hs]; exact sh8 hc1) (by omega) (by rw [e]; exact t.1) (by rw [e, t.2]; omega) (by omega)
      rw [e, t.2] at r
      exact ⟨r.1, by omega⟩
theorem aw_5 {m : Nat} {w : Int32} {I : ow_I} (h0 : 0 ≤ I m 5) (h : tn (I m 5) ≤ 496) : 0 ≤ M_appendWord m w I m 5 ∧ tn (M_appendWord m w I m 5) = tn (I m 5) + 4 := aw_L 5 I _ 4 (by decide) (by omega) h0 (by omega) (by omega)
/-! the reference's output -/
theorem pw_le {d : Nat} (h : d ≤ 9) : 1 ≤ 10 ^ d ∧ 10 ^ d ≤ 1000000000 := by
  rcases (show d = 0 ∨ d = 1 ∨ d = 2 ∨ d = 3 ∨ d = 4 ∨ d = 5 ∨ d = 6 ∨ d = 7 ∨ d = 8 ∨ d = 9 by omega) with z | z | z | z | z | z | z | z | z | z <;> subst z <;> decide
theorem pw_ne {d : Nat} (h : d ≤ 9) : ¬ nI (10 ^ d) = 0 := fun z => by
  have := pw_le h
  rw [nI_z (by omega)] at z
  omega
theorem i32_div {x : Int32} {u : Nat} (hu : 1 ≤ u) (h : u < 2 ^ 31) : (x / nI u).toInt = x.toInt.tdiv u := by
  rw [Int32.toInt_div, nI_toInt h]
  have h1 := Int32.le_toInt x
  have h2 := Int32.toInt_lt x
  have h3 : x.toInt.tdiv u ≤ 2 ^ 31 - 1 ∧ - 2 ^ 31 ≤ x.toInt.tdiv u := by
    rcases Int.le_total 0 x.toInt with z | z
    · have a := Int.tdiv_nonneg z (show (0 : Int) ≤ u by omega)
      have b := Int.tdiv_le_self (u : Int) z
      omega
    · have a : (-x.toInt).tdiv u = - (x.toInt.tdiv u) := Int.neg_tdiv ..
      have b := Int.tdiv_le_self (u : Int) (show 0 ≤ -x.toInt by omega)
      have c := Int.tdiv_nonneg (show 0 ≤ -x.toInt by omega) (show (0 : Int) ≤ u by omega)
      omega
  exact Int.bmod_eq_of_le (by omega) (by omega)
theorem dig_8 {x : Int32} {d : Nat} (hd : d ≤ 9) (h : nI 10 ≤ x / nI (10 ^ d)) : ((10 : Nat) ^ (d + 1) : Int) ≤ x.toInt ∧ d ≤ 8 := by
  have p := pw_le hd
  rw [Int32.le_iff_toInt_le, i32_div p.1 (by omega), nI_toInt (by decide)] at h
  have h0 : 0 ≤ x.toInt := by
    rcases Int.le_total 0 x.toInt with z | z
    · exact z
    · exfalso
      have a : (-x.toInt).tdiv (10 ^ d : Nat) = - (x.toInt.tdiv (10 ^ d : Nat)) := Int.neg_tdiv ..
      have c := Int.tdiv_nonneg (show 0 ≤ -x.toInt by omega) (show (0 : Int) ≤ (10 ^ d : Nat) by omega)
      omega
  rw [Int.tdiv_eq_ediv_of_nonneg h0] at h
  have h2 := Int32.toInt_lt x
  have h1 : (10 : Int) * (10 ^ d : Nat) ≤ x.toInt := by
    have := (Int.le_ediv_iff_mul_le (show (0 : Int) < (10 ^ d : Nat) by omega)).1 h
    exact this
  have e : (10 : Nat) ^ (d + 1) = 10 ^ d * 10 := Nat.pow_succ ..
  refine ⟨by rw [show (((10 : Nat) : Int) ^ (d + 1)) = ((10 ^ (d + 1) : Nat) : Int) by norm_cast, e]; omega, ?_⟩
  rcases Nat.lt_or_ge d 9 with z | z
  · omega
  · have : d = 9 := by omega
    subst this
    have h1 : (10 : Int) * 1000000000 ≤ x.toInt := h1
    omega
