section
theorem sc_C {m : Nat} {I : ow_I} (hv : md_V (I (m + 1))) (ho : 0 ≤ I m 1) (hk2 : 0 ≤ I m 2) (h : (M_failsAtScript m (ow_u I m 18 (nI 0))).1 = false) : md_C m (M_keep m 0 (M_throwsIf m (M_failsAtScript m (ow_u I m 18 (nI 0))).1 (nI 1) (ow_u (M_failsAtScript m (ow_u I m 18 (nI 0))).2 m 5 (nI 0))).2) := by
  have e1 : ∀ k, k = 1 ∨ k = 2 → (M_throwsIf m (M_failsAtScript m (ow_u I m 18 (nI 0))).1 (nI 1) (ow_u (M_failsAtScript m (ow_u I m 18 (nI 0))).2 m 5 (nI 0))).2 m k = I m k := fun k hk => by
    rw [fr_thr (by omega), ow_u_k _ _ _ _ (by omega), fr_scr (by omega), ow_u_k _ _ _ _ (by omega)]
  have c := C_scr (I := ow_u I m 18 (nI 0)) (by rw [rr_u (by omega)]; exact hv) h
  refine C_of c ?_ ?_ ?_
  · rw [fr_keep (by rw [e1 1 (by omega)]; exact ho) (by rw [e1 2 (by omega)]; exact hk2) (by omega) (by omega), fr_thr (by omega), ow_u_k _ _ _ _ (by omega)]
  · rw [keep_0 (by rw [e1 1 (by omega)]; exact ho) (by rw [e1 2 (by omega)]; exact hk2) (Or.inl rfl) (by omega), rr_thr (by omega), rr_u (by omega)]
  · rw [rr_keep (by rw [e1 1 (by omega)]; exact ho) (by rw [e1 2 (by omega)]; exact hk2) (by omega) (by omega), rr_thr (by omega), rr_u (by omega)]
def M_runScript_L33 (m : Nat) : Nat → ow_I → Nat → Int32 × ow_I
  | 0, I, _ => (default, I)
  | n + 1, I, i => if tn (I m 15) ≤ i then (I m 15, I) else lt (M_execute m (13 * i) I) (fun (r6 : Bool × ow_I) => if r6.1 then M_runScript_L33 m n r6.2 (i + 1) else (nI i, r6.2))
def M_runScript (m : Nat) (I : ow_I) : Int32 × ow_I :=
  lt (ow_u I m 18 (nI 0)) (fun (I1 : ow_I) => lt (M_failsAtScript m I1) (fun (r2 : Bool × ow_I) => lt (ow_u r2.2 m 5 (nI 0)) (fun (I3 : ow_I) => lt (M_throwsIf m r2.1 (nI 1) I3) (fun (r4 : Bool × ow_I) => if r4.1 then (nI 0, r4.2) else lt (M_keep m 0 r4.2) (fun (I5 : ow_I) => M_runScript_L33 m 21 I5 0)))))
end
section
def M_lacksBuyer (m : Nat) (b : Int32) (I : ow_I) : Bool × ow_I :=
  lt (ow_u I m 18 (nI 0)) (fun (I1 : ow_I) => if M_in b (nI 0) (I1 (m + 1) 6 - (nI 1)) I1 then (false, I1) else lt (ow_u I1 m 18 (nI 1)) (fun (I2 : ow_I) => (true, I2)))
def M_lacksBarrel (m : Nat) (b : Int32) (I : ow_I) : Bool × ow_I :=
  lt (ow_u I m 18 (nI 0)) (fun (I1 : ow_I) => if M_isBarrel m b I1 then (false, I1) else lt (ow_u I1 m 18 (nI 1)) (fun (I2 : ow_I) => (true, I2)))
end
section
theorem lb_A {m : Nat} {b : Int32} {I : ow_I} : (M_lacksBuyer m b I).2 (m + 1) = I (m + 1) := by
  simp only [M_lacksBuyer, lt_eq]
  (repeat' split) <;> simp only [rr_u (show m + 1 ≠ m by omega)]
theorem lB_A {m : Nat} {b : Int32} {I : ow_I} : (M_lacksBarrel m b I).2 (m + 1) = I (m + 1) := by
  simp only [M_lacksBarrel, lt_eq]
  (repeat' split) <;> simp only [rr_u (show m + 1 ≠ m by omega)]
theorem u_A {m k : Nat} {x : Int32} {I : ow_I} : ow_u I m k x (m + 1) = I (m + 1) := rr_u (by omega)
theorem fr_lb {m k : Nat} {b : Int32} {I : ow_I} (h : k ≠ 18) : (M_lacksBuyer m b I).2 m k = I m k := by
  simp only [M_lacksBuyer, lt_eq]
  (repeat' split) <;> simp only [ow_u_k _ _ _ _ h]
theorem fr_lB {m k : Nat} {b : Int32} {I : ow_I} (h : k ≠ 18) : (M_lacksBarrel m b I).2 m k = I m k := by
  simp only [M_lacksBarrel, lt_eq]
  (repeat' split) <;> simp only [ow_u_k _ _ _ _ h]
theorem rr_lb {m a : Nat} {b : Int32} {I : ow_I} (h : a ≠ m) : (M_lacksBuyer m b I).2 a = I a := by
  simp only [M_lacksBuyer, lt_eq]
  (repeat' split) <;> simp only [rr_u h]
theorem rr_lB {m a : Nat} {b : Int32} {I : ow_I} (h : a ≠ m) : (M_lacksBarrel m b I).2 a = I a := by
  simp only [M_lacksBarrel, lt_eq]
  (repeat' split) <;> simp only [rr_u h]
theorem lb_1 {m : Nat} {b : Int32} {I : ow_I} (hv : md_V (I (m + 1))) (h : (M_lacksBuyer m b I).1 = false) : 0 ≤ b ∧ tn b < tn (I (m + 1) 6) := by
  have h6 := hv.2.1
  revert h
  simp only [M_lacksBuyer, lt_eq]
  (repeat' split)
  · rename_i h
    intro _
    have r := in_rng h
    rw [u_A] at r
    exact le_m1 h6.1 h6.2.1 h6.2.2 r.1 r.2
  · intro h; exact tf_abs h
theorem lB_1 {m : Nat} {b : Int32} {I : ow_I} (hv : md_V (I (m + 1))) (h : (M_lacksBarrel m b I).1 = false) : 0 ≤ b ∧ tn b < tn (I (m + 1) 7) := by
  have h7 := hv.2.2.1
  revert h
  simp only [M_lacksBarrel, lt_eq]
  (repeat' split)
  · rename_i h
    intro _
    have r := isB h (by rw [u_A]; exact h7.1)
    rw [u_A] at r
    exact r
  · intro h; exact tf_abs h
end
section
def M_errorCode (m : Nat) (I : ow_I) : Int32 × ow_I :=
  lt (ow_u I m 18 (nI 0)) (fun (I1 : ow_I) => (I1 m 6, I1))
def M_errorPosition (m : Nat) (I : ow_I) : Int32 × ow_I :=
  lt (ow_u I m 18 (nI 0)) (fun (I1 : ow_I) => (I1 m 7, I1))
def M_minute (m : Nat) (I : ow_I) : Int32 × ow_I :=
  lt (ow_u I m 18 (nI 0)) (fun (I1 : ow_I) => (I1 (m + 1) 5, I1))
def M_step (m : Nat) (I : ow_I) : Int32 × ow_I :=
  lt (ow_u I m 18 (nI 0)) (fun (I1 : ow_I) => (I1 (m + 1) 3, I1))
def M_sellerCoins (m : Nat) (I : ow_I) : Int32 × ow_I :=
  lt (ow_u I m 18 (nI 0)) (fun (I1 : ow_I) => (I1 (m + 1) 13, I1))
def M_houseCoins (m : Nat) (I : ow_I) : Int32 × ow_I :=
  lt (ow_u I m 18 (nI 0)) (fun (I1 : ow_I) => (I1 (m + 1) 14, I1))
def M_openBarrel (m : Nat) (I : ow_I) : Int32 × ow_I :=
  lt (ow_u I m 18 (nI 0)) (fun (I1 : ow_I) => (I1 (m + 1) 8, I1))
def M_bid (m : Nat) (I : ow_I) : Int32 × ow_I :=
  lt (ow_u I m 18 (nI 0)) (fun (I1 : ow_I) => if 0 ≤ I1 (m + 1) 10 then (I1 (m + 1) 9, I1) else ((-1), I1))
def M_leader (m : Nat) (I : ow_I) : Int32 × ow_I :=
  lt (ow_u I m 18 (nI 0)) (fun (I1 : ow_I) => (I1 (m + 1) 10, I1))
def M_queueLength (m : Nat) (I : ow_I) : Int32 × ow_I :=
  lt (ow_u I m 18 (nI 0)) (fun (I1 : ow_I) => (I1 (m + 1) 12, I1))
def M_barrelCount (m : Nat) (I : ow_I) : Int32 × ow_I :=
  lt (ow_u I m 18 (nI 0)) (fun (I1 : ow_I) => (I1 (m + 1) 7, I1))
def M_buyerCount (m : Nat) (I : ow_I) : Int32 × ow_I :=
  lt (ow_u I m 18 (nI 0)) (fun (I1 : ow_I) => (I1 (m + 1) 6, I1))
def M_isOpen (m : Nat) (I : ow_I) : Bool × ow_I :=
  lt (ow_u I m 18 (nI 0)) (fun (I1 : ow_I) => (M_isOpenNow m I1, I1))
end
section
/-! the reference's calls: what they ask for -/
theorem le_mn {x n : Int32} (h6 : 0 ≤ n) (h1 : 1 ≤ tn n) (hn : tn n ≤ 20) (h : nI 0 ≤ x) (h2 : x ≤ n - nI 1) : 0 ≤ x ∧ tn x < tn n := by
  have e : n - nI 1 = nI (tn n - 1) := by rw [← pk_sub (by omega), nI_tn h6]
  rw [e] at h2
  have r := i32_le (a := 0) (by omega) (by omega) h h2
  exact ⟨r.1, by omega⟩
theorem lB_e {m : Nat} {b : Int32} {I : ow_I} (hv : md_V (I (m + 1))) (h : (M_lacksBarrel m b I).1 = false) : 0 ≤ M_ofBarrel m (tn b) 0 (M_lacksBarrel m b I).2 ∧ 1 ≤ tn (M_ofBarrel m (tn b) 0 (M_lacksBarrel m b I).2) ∧ tn (M_ofBarrel m (tn b) 0 (M_lacksBarrel m b I).2) ≤ 9 ∧ tn b < 20 := by
  have r := lB_1 hv h
  have e := hv.2.2.2.2.2.2.2.2.2 _ r.2
  have : M_ofBarrel m (tn b) 0 (M_lacksBarrel m b I).2 = I (m + 1) (66 + 15 * tn b) := by
    show (M_lacksBarrel m b I).2 (m + 1) (66 + 15 * tn b) = _
    rw [lB_A]
  rw [this]
  exact ⟨e.1, e.2.1, e.2.2, by have := hv.2.2.1; omega⟩
theorem V_cb {m t : Nat} {I : ow_I} (hv : md_V (I (m + 1))) (ht : 1 ≤ t) : md_V (M_copyBlock m 0 t I (m + 1)) := V_blk hv (fun k hk => by rw [cb_cells (by omega), if_neg (by omega)])
theorem V_cbk {m f : Nat} {I : ow_I} (hv : md_V (fun k => I (m + 1) (370 * f + k))) (hf : 1 ≤ f) : md_V (M_copyBlock m f 0 I (m + 1)) := V_blk hv (fun k hk => by rw [cb_cells (by omega), if_pos (by omega)]; rfl)
theorem F_0 {m k : Nat} {x : Int32} {I : ow_I} (hk : k = 3) : md_F m I (ow_u I (m + 1) k x) := F_s F_r _ (by omega) (by omega) (by omega)
theorem nod_h8 {m b : Nat} {J : ow_I} (ho : 0 ≤ J m 1) (hk : 0 ≤ J m 2) (hv : md_V (J (m + 1))) (h : M_reasonAgainst m b J ≤ 0) : ¬ 0 ≤ M_keep m 0 J (m + 1) 10 → 0 ≤ M_keep m 0 J (m + 1) 8 ∧ tn (M_keep m 0 J (m + 1) 8) < 20 := by
  intro _
  rw [keep_0 (k := 8) ho hk (Or.inl rfl) (by omega)]
  exact ⟨RA_8 h, mdV_8' hv⟩
theorem wd_h {m b : Nat} {J : ow_I} (ho : 0 ≤ J m 1) (hk : 0 ≤ J m 2) (hv : md_V (J (m + 1))) (hb : b < tn (J (m + 1) 7)) (h : M_isWaiting m b J = true) : ∃ p, p < tn (M_keep m 0 J (m + 1) 12) ∧ M_keep m 0 J (m + 1) (16 + p) = nI b := by
  obtain ⟨p, h1, h2⟩ := V_wait hv hb h
  have := hv.2.2.2.2.2.1
  refine ⟨p, ?_, ?_⟩
  · rw [keep_0 ho hk (Or.inl rfl) (by omega)]; exact h1
  · rw [keep_0 ho hk (Or.inl rfl) (by omega)]; exact h2
theorem spl_h {m b e : Nat} {J : ow_I} (ho : 0 ≤ J m 1) (hk : 0 ≤ J m 2) (hv : md_V (J (m + 1))) (hb : b < tn (J (m + 1) 7)) (he : e ≤ 8) (h : M_canSplit m b e J = true) : b < 20 ∧ 0 ≤ M_ofBarrel m b 0 (M_keep m 0 J) ∧ tn (M_ofBarrel m b 0 (M_keep m 0 J)) ≤ 9 ∧ e < tn (M_ofBarrel m b 0 (M_keep m 0 J)) ∧ tn (M_keep m 0 J (m + 1) 7) < 20 ∧ b < tn (M_keep m 0 J (m + 1) 7) := by
  have h20 := hv.2.2.1.2
  have e0 : M_ofBarrel m b 0 (M_keep m 0 J) = M_ofBarrel m b 0 J := by
    show M_keep m 0 J (m + 1) (66 + 15 * b + 0) = J (m + 1) (66 + 15 * b + 0)
    rw [keep_0 ho hk (Or.inl rfl) (by omega)]
  have e7 : M_keep m 0 J (m + 1) 7 = J (m + 1) 7 := keep_0 ho hk (Or.inl rfl) (by omega)
  have q := hv.2.2.2.2.2.2.2.2.2 _ hb
  have c := (lt_tn (cS h).2.1 (nI_ge0 (by omega))).2
  rw [tn_nI (by omega)] at c
  rw [e0, e7]
  exact ⟨by omega, q.1, q.2.2, c, cS7 hv h, hb⟩
theorem ck7 {m : Nat} {J : ow_I} (ho : 0 ≤ J m 1) (hk : 0 ≤ J m 2) (hv : md_V (J (m + 1))) (h : ¬ J (m + 1) 7 = nI 20) : tn (M_keep m 0 J (m + 1) 7) < 20 := by
  rw [keep_0 ho hk (Or.inl rfl) (by omega)]
  exact B20 hv h
theorem tot_L {m b : Nat} {I J : ow_I} (h : J (m + 1) = I (m + 1)) : ∀ (n : Nat) (s : Int32) (e : Nat), M_totalOf_L4 m b n J s e = M_totalOf_L4 m b n I s e := by
  intro n
  induction n with
  | zero => intro s e; rfl
  | succ n ih =>
    intro s e
    have e1 : ∀ k, M_ofBarrel m b k J = M_ofBarrel m b k I := fun k => by
      show J (m + 1) _ = I (m + 1) _
      rw [h]
    by_cases c : tn (M_ofBarrel m b 0 I) ≤ e
    · simp only [M_totalOf_L4, e1, if_pos c]
    · simp only [M_totalOf_L4, M_lengthOf, e1, if_neg c, ih]
theorem tot_row {m b : Nat} {I J : ow_I} (h : J (m + 1) = I (m + 1)) : M_totalOf m b J = M_totalOf m b I := tot_L h _ _ _
/-! the reference's input -/
theorem aw_L {m : Nat} {w : Int32} : ∀ (n : Nat) (I : ow_I) (s : Int32) (c : Nat), s = nI (8 * c) - 8 → c ≤ 4 → 0 ≤ I m 5 → tn (I m 5) + c ≤ 500 → c < n → 0 ≤ M_appendWord_L3 m w n I s m 5 ∧ tn (M_appendWord_L3 m w n I s m 5) = tn (I m 5) + c := by
  intro n
  induction n with
  | zero => intro I s c _ _ _ _ h; omega
  | succ n ih =>
    intro I s c hs hc h0 hl hn
    simp only [M_appendWord_L3, lt_eq]
    split
    · rename_i h
      have : c = 0 := by
        rcases Nat.eq_zero_or_pos c with z | z
        · exact z
        · exfalso
          rw [hs] at h
          rcases (show c = 1 ∨ c = 2 ∨ c = 3 ∨ c = 4 by omega) with y | y | y | y <;> subst y <;> exact absurd h (by decide)
      subst this
      exact ⟨h0, rfl⟩
    · rename_i h
      have hc1 := sh8_c hs h
      have t := tn_inc h0 (by omega)
      generalize ((w >>> (s &&& 31)).toInt8.toInt32).toInt8.toInt32 = X
      have e : ow_u (ow_u I (m + 3) (tn (I m 5)) X) m 5 (ow_u I (m + 3) (tn (I m 5)) X m 5 + nI 1) m 5 = I m 5 + nI 1 := by
        rw [ow_u_s, rr_u (by omega)]
      have r := ih (ow_u (ow_u I (m + 3) (tn (I m 5)) X) m 5 (ow_u I (m + 3) (tn (I m 5)) X m 5 + nI 1)) (s + Int32.ofInt (-8)) (c - 1) (by rw [hs]; exact sh8 hc1) (by omega) (by rw [e]; exact t.1) (by rw [e, t.2]; omega) (by omega)
      rw [e, t.2] at r
      exact ⟨r.1, by omega⟩
theorem aw_5 {m : Nat} {w : Int32} {I : ow_I} (h0 : 0 ≤ I m 5) (h : tn (I m 5) ≤ 496) : 0 ≤ M_appendWord m w I m 5 ∧ tn (M_appendWord m w I m 5) = tn (I m 5) + 4 := aw_L 5 I _ 4 (by decide) (by omega) h0 (by omega) (by omega)
/-! the reference's output -/
theorem pw_le {d : Nat} (h : d ≤ 9) : 1 ≤ 10 ^ d ∧ 10 ^ d ≤ 1000000000 := by
  rcases (show d = 0 ∨ d = 1 ∨ d = 2 ∨ d = 3 ∨ d = 4 ∨ d = 5 ∨ d = 6 ∨ d = 7 ∨ d = 8 ∨ d = 9 by omega) with z | z | z | z | z | z | z | z | z | z <;> subst z <;> decide
theorem pw_ne {d : Nat} (h : d ≤ 9) : ¬ nI (10 ^ d) = 0 := fun z => by
  have := pw_le h
  rw [nI_z (by omega)] at z
  omega
theorem i32_div {x : Int32} {u : Nat} (hu : 1 ≤ u) (h : u < 2 ^ 31) : (x / nI u).toInt = x.toInt.tdiv u := by
  rw [Int32.toInt_div, nI_toInt h]
  have h1 := Int32.le_toInt x
  have h2 := Int32.toInt_lt x
  have h3 : x.toInt.tdiv u ≤ 2 ^ 31 - 1 ∧ - 2 ^ 31 ≤ x.toInt.tdiv u := by
    rcases Int.le_total 0 x.toInt with z | z
    · have a := Int.tdiv_nonneg z (show (0 : Int) ≤ u by omega)
      have b := Int.tdiv_le_self (u : Int) z
      omega
    · have a : (-x.toInt).tdiv u = - (x.toInt.tdiv u) := Int.neg_tdiv ..
      have b := Int.tdiv_le_self (u : Int) (show 0 ≤ -x.toInt by omega)
      have c := Int.tdiv_nonneg (show 0 ≤ -x.toInt by omega) (show (0 : Int) ≤ u by omega)
      omega
  exact Int.bmod_eq_of_le (by omega) (by omega)
theorem dig_8 {x : Int32} {d : Nat} (hd : d ≤ 9) (h : nI 10 ≤ x / nI (10 ^ d)) : ((10 : Nat) ^ (d + 1) : Int) ≤ x.toInt ∧ d ≤ 8 := by
  have p := pw_le hd
  rw [Int32.le_iff_toInt_le, i32_div p.1 (by omega), nI_toInt (by decide)] at h
  have h0 : 0 ≤ x.toInt := by
    rcases Int.le_total 0 x.toInt with z | z
    · exact z
    · exfalso
      have a : (-x.toInt).tdiv (10 ^ d : Nat) = - (x.toInt.tdiv (10 ^ d : Nat)) := Int.neg_tdiv ..
      have c := Int.tdiv_nonneg (show 0 ≤ -x.toInt by omega) (show (0 : Int) ≤ (10 ^ d : Nat) by omega)
      omega
  rw [Int.tdiv_eq_ediv_of_nonneg h0] at h
  have h2 := Int32.toInt_lt x
  have h1 : (10 : Int) * (10 ^ d : Nat) ≤ x.toInt := by
    have := (Int.le_ediv_iff_mul_le (show (0 : Int) < (10 ^ d : Nat) by omega)).1 h
    exact this
  have e : (10 : Nat) ^ (d + 1) = 10 ^ d * 10 := Nat.pow_succ ..
  refine ⟨by rw [show (((10 : Nat) : Int) ^ (d + 1)) = ((10 ^ (d + 1) : Nat) : Int) by norm_cast, e]; omega, ?_⟩
  rcases Nat.lt_or_ge d 9 with z | z
  · omega
  · have : d = 9 := by omega
    subst this
    have h1 : (10 : Int) * 1000000000 ≤ x.toInt := h1
    omega
end
section
def M_nextBid (m : Nat) (I : ow_I) : Int32 × ow_I :=
  lt (ow_u I m 18 (nI 0)) (fun (I1 : ow_I) => if 0 ≤ I1 (m + 1) 8 then (M_bidNext m I1, I1) else ((-1), I1))
def M_quiet (m : Nat) (I : ow_I) : Int32 × ow_I :=
  lt (ow_u I m 18 (nI 0)) (fun (I1 : ow_I) => if 0 ≤ I1 (m + 1) 8 then (I1 (m + 1) 11, I1) else ((-1), I1))
def M_queuedBarrel (m : Nat) (p : Int32) (I : ow_I) : Int32 × ow_I :=
  lt (ow_u I m 18 (nI 0)) (fun (I1 : ow_I) => if p < 0 then ((-1), I1) else if I1 (m + 1) 12 ≤ p then ((-1), I1) else (I1 (m + 1) (16 + (tn p)), I1))
def M_eels (m : Nat) (b : Int32) (I : ow_I) : Int32 × ow_I :=
  lt (M_lacksBarrel m b I) (fun (r1 : Bool × ow_I) => if r1.1 then (nI 0, r1.2) else (M_ofBarrel m (tn b) 0 r1.2, r1.2))
def M_reserve (m : Nat) (b : Int32) (I : ow_I) : Int32 × ow_I :=
  lt (M_lacksBarrel m b I) (fun (r1 : Bool × ow_I) => if r1.1 then (nI 0, r1.2) else (M_ofBarrel m (tn b) 10 r1.2, r1.2))
def M_stateOf (m : Nat) (b : Int32) (I : ow_I) : Int32 × ow_I :=
  lt (M_lacksBarrel m b I) (fun (r1 : Bool × ow_I) => if r1.1 then (nI 0, r1.2) else (M_ofBarrel m (tn b) 12 r1.2, r1.2))
def M_returns (m : Nat) (b : Int32) (I : ow_I) : Int32 × ow_I :=
  lt (M_lacksBarrel m b I) (fun (r1 : Bool × ow_I) => if r1.1 then (nI 0, r1.2) else (M_ofBarrel m (tn b) 11 r1.2, r1.2))
def M_buyerOf (m : Nat) (b : Int32) (I : ow_I) : Int32 × ow_I :=
  lt (M_lacksBarrel m b I) (fun (r1 : Bool × ow_I) => if r1.1 then (nI 0, r1.2) else (M_ofBarrel m (tn b) 13 r1.2, r1.2))
def M_priceOf (m : Nat) (b : Int32) (I : ow_I) : Int32 × ow_I :=
  lt (M_lacksBarrel m b I) (fun (r1 : Bool × ow_I) => if r1.1 then (nI 0, r1.2) else (M_ofBarrel m (tn b) 14 r1.2, r1.2))
def M_totalLength (m : Nat) (b : Int32) (I : ow_I) : Int32 × ow_I :=
  lt (M_lacksBarrel m b I) (fun (r1 : Bool × ow_I) => if r1.1 then (nI 0, r1.2) else (M_totalOf m (tn b) r1.2, r1.2))
def M_greatestLength (m : Nat) (b : Int32) (I : ow_I) : Int32 × ow_I :=
  lt (M_lacksBarrel m b I) (fun (r1 : Bool × ow_I) => if r1.1 then (nI 0, r1.2) else (M_greatestOf m (tn b) r1.2, r1.2))
def M_middleLength (m : Nat) (b : Int32) (I : ow_I) : Int32 × ow_I :=
  lt (M_lacksBarrel m b I) (fun (r1 : Bool × ow_I) => if r1.1 then (nI 0, r1.2) else (M_middleOf m (tn b) r1.2, r1.2))
def M_length (m : Nat) (b : Int32) (e : Int32) (I : ow_I) : Int32 × ow_I :=
  lt (M_lacksBarrel m b I) (fun (r1 : Bool × ow_I) => if r1.1 then (nI 0, r1.2) else if M_in e (nI 0) (M_ofBarrel m (tn b) 0 r1.2 - (nI 1)) r1.2 then (M_lengthOf m (tn b) (tn e) r1.2, r1.2) else lt (ow_u r1.2 m 18 (nI 1)) (fun (I2 : ow_I) => (nI 0, I2)))
def M_pricePerLength (m : Nat) (b : Int32) (I : ow_I) : UInt32 × ow_I :=
  lt (M_lacksBarrel m b I) (fun (r1 : Bool × ow_I) => if r1.1 then (FP.fconst0, r1.2) else if M_ofBarrel m (tn b) 12 r1.2 = nI 2 then (FP.fdiv (FP.i2f (M_ofBarrel m (tn b) 14 r1.2)) (FP.i2f (M_totalOf m (tn b) r1.2)), r1.2) else (FP.fconst0, r1.2))
def M_purse (m : Nat) (b : Int32) (I : ow_I) : Int32 × ow_I :=
  lt (M_lacksBuyer m b I) (fun (r1 : Bool × ow_I) => if r1.1 then (nI 0, r1.2) else (M_of m (tn b) 0 r1.2, r1.2))
def M_style (m : Nat) (b : Int32) (I : ow_I) : Int32 × ow_I :=
  lt (M_lacksBuyer m b I) (fun (r1 : Bool × ow_I) => if r1.1 then (nI 0, r1.2) else (M_of m (tn b) 1 r1.2, r1.2))
def M_factor (m : Nat) (b : Int32) (I : ow_I) : Int32 × ow_I :=
  lt (M_lacksBuyer m b I) (fun (r1 : Bool × ow_I) => if r1.1 then (nI 0, r1.2) else (M_of m (tn b) 2 r1.2, r1.2))
def M_bought (m : Nat) (b : Int32) (I : ow_I) : Int32 × ow_I :=
  lt (M_lacksBuyer m b I) (fun (r1 : Bool × ow_I) => if r1.1 then (nI 0, r1.2) else (M_of m (tn b) 3 r1.2, r1.2))
def M_nods (m : Nat) (b : Int32) (I : ow_I) : Int32 × ow_I :=
  lt (M_lacksBuyer m b I) (fun (r1 : Bool × ow_I) => if r1.1 then (nI 0, r1.2) else (M_of m (tn b) 4 r1.2, r1.2))
def M_worth (m : Nat) (b : Int32) (k : Int32) (I : ow_I) : UInt64 × ow_I :=
  lt (M_lacksBuyer m b I) (fun (r1 : Bool × ow_I) => if r1.1 then (FP.dconst0, r1.2) else lt (M_lacksBarrel m k r1.2) (fun (r2 : Bool × ow_I) => if r2.1 then (FP.dconst0, r2.2) else (M_worthTo m (tn b) (tn k) r2.2, r2.2)))
def M_endTrial (m : Nat) (x : Int32) (I : ow_I) : Int32 × ow_I :=
  lt (M_copyBlock m 12 0 I) (fun (I1 : ow_I) => (x, I1))
def M_whyNotNod (m : Nat) (b : Int32) (I : ow_I) : Int32 × ow_I :=
  lt (M_lacksBuyer m b I) (fun (r1 : Bool × ow_I) => if r1.1 then (nI 0, r1.2) else (M_reasonAgainst m (tn b) r1.2, r1.2))
def M_costOf (m : Nat) (p : Int32) (I : ow_I) : Int32 × ow_I :=
  lt (ow_u I m 18 (nI 0)) (fun (I1 : ow_I) => if M_in p (nI 0) (nI 9999) I1 then (M_costOfPrice m p I1, I1) else lt (ow_u I1 m 18 (nI 1)) (fun (I2 : ow_I) => (nI 0, I2)))
def M_nextNodder (m : Nat) (I : ow_I) : Int32 × ow_I :=
  lt (ow_u I m 18 (nI 0)) (fun (I1 : ow_I) => (M_thinker m I1, I1))
def M_keenestBuyer_L14 (m : Nat) (b : Int32) : Nat → ow_I → Nat → Nat → Nat × ow_I
  | 0, I, _, _ => (default, I)
  | n + 1, I, k, i => if tn (I (m + 1) 6) ≤ i then (k, I) else if Op.cmpValue (FP.dcmp (M_worthTo m i (tn b) I) (M_worthTo m k (tn b) I)) .l ≤ 0 then M_keenestBuyer_L14 m b n I k (i + 1) else M_keenestBuyer_L14 m b n I i (i + 1)
def M_keenestBuyer (m : Nat) (b : Int32) (I : ow_I) : Nat × ow_I :=
  lt (M_lacksBarrel m b I) (fun (r1 : Bool × ow_I) => if r1.1 then (0, r1.2) else M_keenestBuyer_L14 m b 7 r1.2 0 1)
def M_minutesToSale_L19 (m : Nat) (b : Int32) : Nat → ow_I → Nat → Int32 × ow_I
  | 0, I, _ => (default, I)
  | n + 1, I, i => if M_ofBarrel m (tn b) 12 I = nI 2 then if M_ofBarrel m (tn b) 12 I = nI 2 then lt (M_endTrial m (nI i) I) (fun (r4 : Int32 × ow_I) => (r4.1, r4.2)) else lt (M_endTrial m ((-1)) I) (fun (r3 : Int32 × ow_I) => (r3.1, r3.2)) else if 500 ≤ i then if M_ofBarrel m (tn b) 12 I = nI 2 then lt (M_endTrial m (nI i) I) (fun (r6 : Int32 × ow_I) => (r6.1, r6.2)) else lt (M_endTrial m ((-1)) I) (fun (r5 : Int32 × ow_I) => (r5.1, r5.2)) else lt (M_passOne m I) (fun (I7 : ow_I) => M_minutesToSale_L19 m b n I7 (i + 1))
def M_minutesToSale (m : Nat) (b : Int32) (I : ow_I) : Int32 × ow_I :=
  lt (M_lacksBarrel m b I) (fun (r1 : Bool × ow_I) => if r1.1 then (nI 0, r1.2) else lt (M_copyBlock m 0 12 r1.2) (fun (I2 : ow_I) => M_minutesToSale_L19 m b 501 I2 0))
def M_buyerAfter (m : Nat) (b : Int32) (n2 : Int32) (I : ow_I) : Int32 × ow_I :=
  lt (M_lacksBarrel m b I) (fun (r1 : Bool × ow_I) => if r1.1 then (nI 0, r1.2) else if M_in n2 (nI 0) (nI 500) r1.2 then lt (M_copyBlock m 0 12 r1.2) (fun (I2 : ow_I) => lt (M_passAll m (tn n2) I2) (fun (r3 : Int32 × ow_I) => lt (M_endTrial m (M_ofBarrel m (tn b) 13 r3.2) r3.2) (fun (r4 : Int32 × ow_I) => (r4.1, r4.2)))) else lt (ow_u r1.2 m 18 (nI 2)) (fun (I5 : ow_I) => (nI 0, I5)))
def M_coinsWith (m : Nat) (s : Int32) (n2 : Nat) (I : ow_I) : Int32 × ow_I :=
  lt (M_copyBlock m 0 12 I) (fun (I1 : ow_I) => lt (ow_u I1 (m + 1) 3 s) (fun (I2 : ow_I) => lt (M_passAll m n2 I2) (fun (r3 : Int32 × ow_I) => lt (M_endTrial m (r3.2 (m + 1) 13) r3.2) (fun (r4 : Int32 × ow_I) => (r4.1, r4.2)))))
def M_sellerCoinsAfter (m : Nat) (n2 : Int32) (I : ow_I) : Int32 × ow_I :=
  lt (ow_u I m 18 (nI 0)) (fun (I1 : ow_I) => if M_in n2 (nI 0) (nI 500) I1 then lt (M_coinsWith m (I1 (m + 1) 3) (tn n2) I1) (fun (r2 : Int32 × ow_I) => (r2.1, r2.2)) else lt (ow_u I1 m 18 (nI 1)) (fun (I3 : ow_I) => (nI 0, I3)))
end
section
theorem V_coins {m n : Nat} {s : Int32} {I : ow_I} (hv : md_V (I (m + 1))) : md_V ((M_coinsWith m s n I).2 (m + 1)) := by
  have hc : md_V (M_copyBlock m 0 12 I (m + 1)) := V_cb hv (by decide)
  have hf := F_t (F_0 (m := m) (x := s) (I := M_copyBlock m 0 12 I) rfl) (F_passAll (n := n) (V_row hc s (Or.inr (Or.inr rfl))))
  simp only [M_coinsWith, M_endTrial, lt_eq]
  refine V_blk hv (fun k hk => ?_)
  rw [cb_cells (by omega), if_pos (by omega), hf.2 _ (by omega), cb_cells (by omega), if_pos (by omega)]
  rw [show 370 * 0 + (370 * 12 + (k - 370 * 0) - 370 * 12) = k by omega]
end
section
def M_bestStep_L38 (m : Nat) (n2 : Int32) : Nat → ow_I → Int32 → Int32 → Nat → Int32 × ow_I
  | 0, I, _, _, _ => (default, I)
  | n + 1, I, b, t, s => if 50 < s then (b, I) else lt (M_coinsWith m (nI s) (tn n2) I) (fun (r2 : Int32 × ow_I) => if t < r2.1 then M_bestStep_L38 m n2 n r2.2 (nI s) r2.1 (s + 1) else M_bestStep_L38 m n2 n r2.2 b t (s + 1))
def M_bestStep (m : Nat) (n2 : Int32) (I : ow_I) : Int32 × ow_I :=
  lt (ow_u I m 18 (nI 0)) (fun (I1 : ow_I) => if M_in n2 (nI 0) (nI 500) I1 then M_bestStep_L38 m n2 51 I1 (nI 0) ((-1)) 1 else lt (ow_u I1 m 18 (nI 1)) (fun (I3 : ow_I) => (nI 0, I3)))
def M_coinError_L23 (m : Nat) : Nat → ow_I → Int32 → Nat → Int32 × ow_I
  | 0, I, _, _ => (default, I)
  | n + 1, I, c, i => if tn (I (m + 1) 6) ≤ i then (I (m + 1) 15 - c, I) else M_coinError_L23 m n I (c + (M_of m i 0 I)) (i + 1)
def M_coinError (m : Nat) (I : ow_I) : Int32 × ow_I :=
  lt (ow_u I m 18 (nI 0)) (fun (I1 : ow_I) => M_coinError_L23 m 7 I1 (I1 (m + 1) 13 + (I1 (m + 1) 14)) 0)
def M_meanLength_L11 (m : Nat) : Nat → ow_I → Int32 → Int32 → Nat → UInt64 × ow_I
  | 0, I, _, _, _ => (default, I)
  | n + 1, I, e, s, i => if tn (I (m + 1) 7) ≤ i then if e = 0 then (FP.dconst0, I) else (FP.ddiv (FP.i2d s) (FP.i2d e), I) else M_meanLength_L11 m n I (e + (M_ofBarrel m i 0 I)) (s + (M_totalOf m i I)) (i + 1)
def M_meanLength (m : Nat) (I : ow_I) : UInt64 × ow_I :=
  lt (ow_u I m 18 (nI 0)) (fun (I1 : ow_I) => M_meanLength_L11 m 21 I1 (nI 0) (nI 0) 0)
def M_soldShare (m : Nat) (I : ow_I) : UInt32 × ow_I :=
  lt (ow_u I m 18 (nI 0)) (fun (I1 : ow_I) => if I1 (m + 1) 7 = 0 then (FP.fconst0, I1) else (FP.fdiv (FP.i2f (M_countState m (nI 2) I1)) (FP.i2f (I1 (m + 1) 7)), I1))
end
section
def M_nod (m : Nat) (b : Int32) (I : ow_I) : Int32 × ow_I :=
  lt (M_lacksBuyer m b I) (fun (r1 : Bool × ow_I) => if r1.1 then (nI 0, r1.2) else if M_reasonAgainst m (tn b) r1.2 ≤ 0 then lt (M_keep m 0 r1.2) (fun (I2 : ow_I) => lt (M_nodNow m (tn b) I2) (fun (r3 : Int32 × ow_I) => (r3.1, r3.2))) else lt (ow_u r1.2 m 18 (nI 2)) (fun (I4 : ow_I) => (nI 0, I4)))
def M_passMinutes (m : Nat) (n2 : Int32) (I : ow_I) : Int32 × ow_I :=
  lt (ow_u I m 18 (nI 0)) (fun (I1 : ow_I) => if M_in n2 (nI 1) (nI 200) I1 then lt (M_keep m 0 I1) (fun (I2 : ow_I) => lt (M_passAll m (tn n2) I2) (fun (r3 : Int32 × ow_I) => (r3.1, r3.2))) else lt (ow_u I1 m 18 (nI 1)) (fun (I4 : ow_I) => (nI 0, I4)))
def M_addBarrel_L95 (m : Nat) (r : Int32) (e : Int32) (x : Int32) : Nat → ow_I → Nat → Nat → Nat × ow_I
  | 0, I, _, _ => (default, I)
  | n + 1, I, b, i => if tn e ≤ i then (b, I) else lt (M_addEel m b x I) (fun (I6 : ow_I) => M_addBarrel_L95 m r e x n I6 b (i + 1))
def M_addBarrel (m : Nat) (r : Int32) (e : Int32) (x : Int32) (I : ow_I) : Nat × ow_I :=
  lt (ow_u I m 18 (nI 0)) (fun (I1 : ow_I) => if M_in r (nI 1) (nI 999) I1 then if M_in e (nI 1) (nI 9) I1 then if M_in x (nI 10) (nI 150) I1 then if I1 (m + 1) 7 = nI 20 then lt (ow_u I1 m 18 (nI 2)) (fun (I7 : ow_I) => (0, I7)) else lt (M_keep m 0 I1) (fun (I4 : ow_I) => lt (M_newBarrel m r I4) (fun (r5 : Nat × ow_I) => M_addBarrel_L95 m r e x 10 r5.2 r5.1 0)) else lt (ow_u I1 m 18 (nI 1)) (fun (I8 : ow_I) => (0, I8)) else lt (ow_u I1 m 18 (nI 1)) (fun (I3 : ow_I) => (0, I3)) else lt (ow_u I1 m 18 (nI 1)) (fun (I2 : ow_I) => (0, I2)))
def M_split (m : Nat) (b : Int32) (e : Int32) (I : ow_I) : Nat × ow_I :=
  lt (M_lacksBarrel m b I) (fun (r1 : Bool × ow_I) => if r1.1 then (0, r1.2) else if M_in e (nI 1) (nI 8) r1.2 then if M_canSplit m (tn b) (tn e) r1.2 then lt (M_keep m 0 r1.2) (fun (I2 : ow_I) => lt (M_splitNow m (tn b) (tn e) I2) (fun (r3 : Nat × ow_I) => (r3.1, r3.2))) else lt (ow_u r1.2 m 18 (nI 3)) (fun (I4 : ow_I) => (0, I4)) else lt (ow_u r1.2 m 18 (nI 2)) (fun (I5 : ow_I) => (0, I5)))
end
section
theorem aw5 {m : Nat} {a : Int32} {I : ow_I} (h0 : 0 ≤ I m 5) (h : tn (I m 5) ≤ 480) : 0 ≤ M_appendWord m a I m 5 ∧ tn (M_appendWord m a I m 5) = tn (I m 5) + 4 := aw_5 h0 (by omega)
theorem aw5b {m : Nat} {a b : Int32} {I : ow_I} (h0 : 0 ≤ I m 5) (h : tn (I m 5) ≤ 480) : 0 ≤ M_appendWord m b (M_appendWord m a I) m 5 ∧ tn (M_appendWord m b (M_appendWord m a I) m 5) = tn (I m 5) + 8 := by
  have r := aw5 (a := a) h0 h
  have s := aw_5 (w := b) r.1 (by omega)
  exact ⟨s.1, by omega⟩
theorem aw5c {m : Nat} {a b c : Int32} {I : ow_I} (h0 : 0 ≤ I m 5) (h : tn (I m 5) ≤ 480) : 0 ≤ M_appendWord m c (M_appendWord m b (M_appendWord m a I)) m 5 ∧ tn (M_appendWord m c (M_appendWord m b (M_appendWord m a I)) m 5) = tn (I m 5) + 12 := by
  have r := aw5b (a := a) (b := b) h0 h
  have s := aw_5 (w := c) r.1 (by omega)
  exact ⟨s.1, by omega⟩
theorem aw5d {m : Nat} {a b c d : Int32} {I : ow_I} (h0 : 0 ≤ I m 5) (h : tn (I m 5) ≤ 480) : 0 ≤ M_appendWord m d (M_appendWord m c (M_appendWord m b (M_appendWord m a I))) m 5 ∧ tn (M_appendWord m d (M_appendWord m c (M_appendWord m b (M_appendWord m a I))) m 5) = tn (I m 5) + 16 := by
  have r := aw5c (a := a) (b := b) (c := c) h0 h
  have s := aw_5 (w := d) r.1 (by omega)
  exact ⟨s.1, by omega⟩
def M_withdraw (m : Nat) (b : Int32) (I : ow_I) : Int32 × ow_I :=
  lt (M_lacksBarrel m b I) (fun (r1 : Bool × ow_I) => if r1.1 then (nI 0, r1.2) else if M_isWaiting m (tn b) r1.2 then lt (M_keep m 0 r1.2) (fun (I2 : ow_I) => lt (M_withdrawNow m (tn b) I2) (fun (r3 : Int32 × ow_I) => (r3.1, r3.2))) else lt (ow_u r1.2 m 18 (nI 2)) (fun (I4 : ow_I) => (nI 0, I4)))
def M_fund (m : Nat) (b : Int32) (x : Int32) (I : ow_I) : Int32 × ow_I :=
  lt (M_lacksBuyer m b I) (fun (r1 : Bool × ow_I) => if r1.1 then (nI 0, r1.2) else if M_in x (nI 1) (nI 9999) r1.2 then lt (M_keep m 0 r1.2) (fun (I2 : ow_I) => lt (M_fundNow m (tn b) x I2) (fun (r3 : Int32 × ow_I) => (r3.1, r3.2))) else lt (ow_u r1.2 m 18 (nI 2)) (fun (I4 : ow_I) => (nI 0, I4)))
def M_setReserve (m : Nat) (b : Int32) (r : Int32) (I : ow_I) : Int32 × ow_I :=
  lt (M_lacksBarrel m b I) (fun (r1 : Bool × ow_I) => if r1.1 then (nI 0, r1.2) else if M_in r (nI 1) (nI 999) r1.2 then if M_isWaiting m (tn b) r1.2 then lt (M_keep m 0 r1.2) (fun (I2 : ow_I) => lt (M_putBarrel m (tn b) 10 r I2) (fun (I3 : ow_I) => (M_ofBarrel m (tn b) 10 I2, I3))) else lt (ow_u r1.2 m 18 (nI 3)) (fun (I4 : ow_I) => (nI 0, I4)) else lt (ow_u r1.2 m 18 (nI 2)) (fun (I5 : ow_I) => (nI 0, I5)))
def M_setStep (m : Nat) (s : Int32) (I : ow_I) : Int32 × ow_I :=
  lt (ow_u I m 18 (nI 0)) (fun (I1 : ow_I) => if M_in s (nI 1) (nI 50) I1 then lt (M_keep m 0 I1) (fun (I2 : ow_I) => lt (ow_u I2 (m + 1) 3 s) (fun (I3 : ow_I) => (I2 (m + 1) 3, I3))) else lt (ow_u I1 m 18 (nI 1)) (fun (I4 : ow_I) => (nI 0, I4)))
def M_setTaste (m : Nat) (b : Int32) (s : Int32) (f : Int32) (I : ow_I) : Int32 × ow_I :=
  lt (M_lacksBuyer m b I) (fun (r1 : Bool × ow_I) => if r1.1 then (nI 0, r1.2) else if M_in s (nI 0) (nI 4) r1.2 then if M_in f (nI 1) (nI 999) r1.2 then lt (M_keep m 0 r1.2) (fun (I3 : ow_I) => lt (M_put m (tn b) 1 s I3) (fun (I4 : ow_I) => lt (M_put m (tn b) 2 f I4) (fun (I5 : ow_I) => (M_of m (tn b) 1 I3, I5)))) else lt (ow_u r1.2 m 18 (nI 2)) (fun (I6 : ow_I) => (nI 0, I6)) else lt (ow_u r1.2 m 18 (nI 2)) (fun (I2 : ow_I) => (nI 0, I2)))
def M_undo (m : Nat) (I : ow_I) : Int32 × ow_I :=
  lt (ow_u I m 18 (nI 0)) (fun (I1 : ow_I) => if tn (I m 2) = 0 then lt (ow_u I1 m 18 (nI 1)) (fun (I4 : ow_I) => (nI 0, I4)) else lt (ow_u I1 m 2 (nI ((tn (I m 2)) - 1))) (fun (I2 : ow_I) => lt (M_copyBlock m (1 + ((tn (I m 1) + (tn (I m 2) - 1)) % 8)) 0 I2) (fun (I3 : ow_I) => (I3 m 2, I3))))
def M_saveSnapshot (m : Nat) (s : Int32) (I : ow_I) : ow_I :=
  lt (ow_u I m 18 (nI 0)) (fun (I1 : ow_I) => if M_in s (nI 0) (nI 1) I1 then lt (M_copyBlock m 0 (9 + (tn s)) I1) (fun (I2 : ow_I) => lt (ow_u I2 (m + 2) (tn s) (((nI 1) &&& 1))) (fun (I3 : ow_I) => I3)) else lt (ow_u I1 m 18 (nI 1)) (fun (I4 : ow_I) => I4))
def M_restoreSnapshot (m : Nat) (s : Int32) (I : ow_I) : Int32 × ow_I :=
  lt (ow_u I m 18 (nI 0)) (fun (I1 : ow_I) => if M_in s (nI 0) (nI 1) I1 then if I1 (m + 2) (tn s) = 0 then lt (ow_u I1 m 18 (nI 2)) (fun (I4 : ow_I) => (nI 0, I4)) else lt (M_keep m 0 I1) (fun (I2 : ow_I) => lt (M_copyBlock m (9 + (tn s)) 0 I2) (fun (I3 : ow_I) => (I3 (m + 1) 5, I3))) else lt (ow_u I1 m 18 (nI 1)) (fun (I5 : ow_I) => (nI 0, I5)))
def M_append (m : Nat) (a : Int32) (b : Int32) (c : Int32) (d : Int32) (e : Int32) (I : ow_I) : Int32 × ow_I :=
  lt (ow_u I m 18 (nI 0)) (fun (I1 : ow_I) => if tn (I m 5) + 20 ≤ 500 then lt (M_appendWord m a I1) (fun (I2 : ow_I) => lt (M_appendWord m b I2) (fun (I3 : ow_I) => lt (M_appendWord m c I3) (fun (I4 : ow_I) => lt (M_appendWord m d I4) (fun (I5 : ow_I) => lt (M_appendWord m e I5) (fun (I6 : ow_I) => (I6 m 5, I6)))))) else lt (ow_u I1 m 18 (nI 1)) (fun (I7 : ow_I) => (nI 0, I7)))
def M_truncate (m : Nat) (t : Int32) (I : ow_I) : Int32 × ow_I :=
  lt (ow_u I m 18 (nI 0)) (fun (I1 : ow_I) => if M_in t (nI 0) (I1 m 5) I1 then lt (ow_u I1 m 5 t) (fun (I2 : ow_I) => (I2 m 5, I2)) else lt (ow_u I1 m 18 (nI 1)) (fun (I3 : ow_I) => (nI 0, I3)))
end
section
def M_outputByte (m : Nat) (i : Int32) (I : ow_I) : Int32 × ow_I :=
  lt (ow_u I m 18 (nI 0)) (fun (I1 : ow_I) => if i < 0 then ((-1), I1) else if I1 m 17 ≤ i then ((-1), I1) else (I1 (m + 6) (tn i), I1))
def M_emit (m : Nat) (x : Int32) (I : ow_I) : ow_I :=
  lt (ow_u I (m + 6) (tn (I m 17)) x.toInt8.toInt32.toInt8.toInt32) (fun (I1 : ow_I) => lt (ow_u I1 m 17 (I1 m 17 + (nI 1))) (fun (I2 : ow_I) => I2))
end
section
theorem em_17 {m : Nat} {x : Int32} {I : ow_I} (hw : 0 ≤ I m 17) (hwb : tn (I m 17) < 200) : 0 ≤ M_emit m x I m 17 ∧ tn (M_emit m x I m 17) = tn (I m 17) + 1 := by
  have e : M_emit m x I m 17 = I m 17 + nI 1 := by
    simp only [M_emit, lt_eq]
    rw [ow_u_s, rr_u (by omega)]
  rw [e]
  exact tn_inc hw (by omega)
theorem rr_em {m a : Nat} {x : Int32} {I : ow_I} (h : a ≠ m) (h6 : a ≠ m + 6) : M_emit m x I a = I a := by
  simp only [M_emit, lt_eq]
  rw [rr_u h, rr_u h6]
theorem fr_em {m k : Nat} {x : Int32} {I : ow_I} (h : k ≠ 17) : M_emit m x I m k = I m k := by
  simp only [M_emit, lt_eq]
  rw [ow_u_k _ _ _ _ h, rr_u (by omega)]

theorem pw_c {u c : Nat} (hu : u = if c = 0 then 0 else 10 ^ (c - 1)) (hc : c ≤ 10) : u < 2 ^ 31 ∧ (c = 0 ↔ u = 0) ∧ (1 ≤ c → u / 10 = if c - 1 = 0 then 0 else 10 ^ (c - 1 - 1)) := by
  rcases (show c = 0 ∨ c = 1 ∨ c = 2 ∨ c = 3 ∨ c = 4 ∨ c = 5 ∨ c = 6 ∨ c = 7 ∨ c = 8 ∨ c = 9 ∨ c = 10 by omega) with z | z | z | z | z | z | z | z | z | z | z <;> subst z <;> subst hu <;> decide
theorem pw_1 {u c : Nat} (hu : u = if c = 0 then 0 else 10 ^ (c - 1)) (hc : c ≤ 10) (h : ¬ nI u ≤ 0) : 1 ≤ c := by
  rcases Nat.eq_zero_or_pos c with z | z
  · have := (pw_c hu hc).2.1.1 z
    rw [this] at h
    exact absurd (by decide) h
  · exact z
theorem pw_u {u c : Nat} (hu : u = if c = 0 then 0 else 10 ^ (c - 1)) (hc : c ≤ 10) (h : 1 ≤ c) : ¬ nI u = 0 := fun z => by
  have p := pw_c hu hc
  rw [nI_z p.1] at z
  have := p.2.1.2 z
  omega
def M_emitNumber_L18 (m : Nat) (x : Int32) : Nat → ow_I → Nat → ow_I
  | 0, I, _ => I
  | n + 1, I, u => if nI u ≤ 0 then I else lt (M_emit m (nI 48 + ((x / (nI u)) - (x / (nI u)) / (nI 10) * (nI 10))) I) (fun (I1 : ow_I) => M_emitNumber_L18 m x n I1 (u / 10))
def M_emitNumber_L2 (m : Nat) (x : Int32) : Nat → ow_I → Nat → ow_I
  | 0, I, _ => I
  | n + 1, I, u => if x / (nI u) < nI 10 then M_emitNumber_L18 m x 11 I u else M_emitNumber_L2 m x n I (u * 10)
def M_emitNumber (m : Nat) (x : Int32) (I : ow_I) : ow_I :=
  M_emitNumber_L2 m x 10 I 1
end
section
theorem en_L18 {m : Nat} {x : Int32} : ∀ (n : Nat) (I : ow_I) (u c : Nat), (u = if c = 0 then 0 else 10 ^ (c - 1)) → c ≤ 10 → c < n → 0 ≤ I m 17 → tn (I m 17) + c ≤ 200 → 0 ≤ M_emitNumber_L18 m x n I u m 17 ∧ tn (M_emitNumber_L18 m x n I u m 17) = tn (I m 17) + c := by
  intro n
  induction n with
  | zero => intro I u c _ _ h; omega
  | succ n ih =>
    intro I u c hu hc hn hw hb
    simp only [M_emitNumber_L18, lt_eq]
    split
    · rename_i h
      have : c = 0 := by
        rcases Nat.eq_zero_or_pos c with z | z
        · exact z
        · exfalso
          have p := pw_c hu hc
          have hne : u ≠ 0 := fun y => by have := p.2.1.2 y; omega
          rw [Int32.le_iff_toInt_le, nI_toInt p.1] at h
          have z0 : (0 : Int32).toInt = 0 := by decide
          omega
      rw [this]
      exact ⟨hw, rfl⟩
    · rename_i h
      have h1 := pw_1 hu hc h
      have e := fun y => @em_17 m y I hw (by omega)
      have r := ih (M_emit m (nI 48 + (x / nI u - x / nI u / nI 10 * nI 10)) I) (u / 10) (c - 1) ((pw_c hu hc).2.2 h1) (by omega) (by omega) (e _).1 (by rw [(e _).2]; omega)
      rw [(e _).2] at r
      exact ⟨r.1, by omega⟩
theorem en_L2 {m : Nat} {x : Int32} : ∀ (n : Nat) (I : ow_I) (u d : Nat), u = 10 ^ d → d ≤ 9 → 9 - d < n → (d = 0 ∨ ((10 ^ d : Nat) : Int) ≤ x.toInt) → ∃ e, e ≤ 9 ∧ (e = 0 ∨ ((10 ^ e : Nat) : Int) ≤ x.toInt) ∧ M_emitNumber_L2 m x n I u = M_emitNumber_L18 m x 11 I (10 ^ e) := by
  intro n
  induction n with
  | zero => intro I u d _ _ h; omega
  | succ n ih =>
    intro I u d hu hd hn hx
    simp only [M_emitNumber_L2]
    split
    · exact ⟨d, hd, hx, by rw [hu]⟩
    · rename_i h
      have g := dig_8 hd (by rw [← hu]; exact i_nlt h)
      exact ih I (u * 10) (d + 1) (by rw [hu]; rfl) (by omega) (by omega) (Or.inr (by have := g.1; rw [show (((10 : Nat) : Int) ^ (d + 1)) = ((10 ^ (d + 1) : Nat) : Int) by norm_cast] at this; exact this))
theorem en_17 {m D : Nat} {x : Int32} {I : ow_I} (hx : x.toInt < ((10 ^ D : Nat) : Int)) (hD : 1 ≤ D ∧ D ≤ 10) (hw : 0 ≤ I m 17) (hb : tn (I m 17) + 10 ≤ 200) : 0 ≤ M_emitNumber m x I m 17 ∧ tn (M_emitNumber m x I m 17) ≤ tn (I m 17) + D := by
  obtain ⟨e, he, hx2, heq⟩ := en_L2 (m := m) (x := x) 10 I 1 0 rfl (by omega) (by omega) (Or.inl rfl)
  have r := en_L18 (m := m) (x := x) 11 I (10 ^ e) (e + 1) (by rfl) (by omega) (by omega) hw (by omega)
  rw [← heq] at r
  refine ⟨r.1, ?_⟩
  have : tn (M_emitNumber m x I m 17) = tn (I m 17) + (e + 1) := r.2
  rw [this]
  rcases Nat.lt_or_ge e D with z | z
  · omega
  · exfalso
    rcases hx2 with y | y
    · omega
    · have := Nat.pow_le_pow_right (show 0 < 10 by omega) z
      omega
theorem rr_enL18 {m a : Nat} {x : Int32} (h : a ≠ m) (h6 : a ≠ m + 6) : ∀ (n : Nat) (I : ow_I) (u : Nat), M_emitNumber_L18 m x n I u a = I a := by
  intro n
  induction n with
  | zero => intro I u; rfl
  | succ n ih =>
    intro I u
    simp only [M_emitNumber_L18, lt_eq]
    split
    · rfl
    · rw [ih, rr_em h h6]
theorem rr_enL2 {m a : Nat} {x : Int32} (h : a ≠ m) (h6 : a ≠ m + 6) : ∀ (n : Nat) (I : ow_I) (u : Nat), M_emitNumber_L2 m x n I u a = I a := by
  intro n
  induction n with
  | zero => intro I u; rfl
  | succ n ih =>
    intro I u
    simp only [M_emitNumber_L2]
    split
    · rw [rr_enL18 h h6]
    · rw [ih]
theorem rr_en {m a : Nat} {x : Int32} {I : ow_I} (h : a ≠ m) (h6 : a ≠ m + 6) : M_emitNumber m x I a = I a := rr_enL2 h h6 _ _ _
theorem i32_10 {x : Int32} : x.toInt < ((10 ^ 10 : Nat) : Int) := by
  have := Int32.toInt_lt x
  omega
end
section
theorem wb_E {m b : Nat} {x : Int32} {I : ow_I} (h : 0 ≤ M_ofBarrel m b 0 I ∧ tn (M_ofBarrel m b 0 I) ≤ 9) : 0 ≤ M_ofBarrel m b 0 (M_emitNumber m x I) ∧ tn (M_ofBarrel m b 0 (M_emitNumber m x I)) ≤ 9 := by
  have e : M_ofBarrel m b 0 (M_emitNumber m x I) = M_ofBarrel m b 0 I := by
    show M_emitNumber m x I (m + 1) _ = I (m + 1) _
    rw [rr_en (by omega) (by omega)]
  rw [e]
  exact h
theorem wb_E2 {m b : Nat} {x c : Int32} {I : ow_I} (h : 0 ≤ M_ofBarrel m b 0 I ∧ tn (M_ofBarrel m b 0 I) ≤ 9) : 0 ≤ M_ofBarrel m b 0 (M_emitNumber m x (M_emit m c I)) ∧ tn (M_ofBarrel m b 0 (M_emitNumber m x (M_emit m c I))) ≤ 9 := by
  have e : M_ofBarrel m b 0 (M_emitNumber m x (M_emit m c I)) = M_ofBarrel m b 0 I := by
    show M_emitNumber m x (M_emit m c I) (m + 1) _ = I (m + 1) _
    rw [rr_en (by omega) (by omega), rr_em (by omega) (by omega)]
  rw [e]
  exact h
theorem wb_1 {m : Nat} {x : Int32} {I : ow_I} (hw : 0 ≤ I m 17) (hb : tn (I m 17) + 10 ≤ 200) : 0 ≤ M_emitNumber m x I m 17 ∧ tn (M_emitNumber m x I m 17) ≤ tn (I m 17) + 10 := en_17 i32_10 (by decide) hw hb
theorem wb_2 {m : Nat} {x c : Int32} {I : ow_I} (hw : 0 ≤ I m 17) (hb : tn (I m 17) + 11 ≤ 200) : 0 ≤ M_emitNumber m x (M_emit m c I) m 17 ∧ tn (M_emitNumber m x (M_emit m c I) m 17) ≤ tn (I m 17) + 11 := by
  have e := @em_17 m c I hw (by omega)
  have r := @wb_1 m x (M_emit m c I) e.1 (by rw [e.2]; omega)
  exact ⟨r.1, by omega⟩
theorem wq_1 {m k : Nat} {I : ow_I} (hk : k < 20) (hw : 0 ≤ I m 17) (hb : tn (I m 17) + 10 ≤ 200) : 0 ≤ M_emitNumber m (nI k) I m 17 ∧ tn (M_emitNumber m (nI k) I m 17) ≤ tn (I m 17) + 2 := en_17 (D := 2) (by rw [nI_toInt (by omega)]; omega) (by decide) hw hb
theorem wq_2 {m k : Nat} {c : Int32} {I : ow_I} (hk : k < 20) (hw : 0 ≤ I m 17) (hb : tn (I m 17) + 11 ≤ 200) : 0 ≤ M_emitNumber m (nI k) (M_emit m c I) m 17 ∧ tn (M_emitNumber m (nI k) (M_emit m c I) m 17) ≤ tn (I m 17) + 3 := by
  have e := @em_17 m c I hw (by omega)
  have r := @wq_1 m k (M_emit m c I) hk e.1 (by rw [e.2]; omega)
  exact ⟨r.1, by omega⟩
def M_writeBarrel_L17 (m : Nat) (b : Int32) : Nat → ow_I → Nat → Int32 × ow_I
  | 0, I, _ => (default, I)
  | n + 1, I, e => if tn (M_ofBarrel m (tn b) 0 I) ≤ e then if M_ofBarrel m (tn b) 12 I = nI (1 + 0) then lt (M_emit m (nI 63) I) (fun (I3 : ow_I) => (I3 m 17, I3)) else if M_ofBarrel m (tn b) 12 I = nI (1 + 1) then lt (M_emit m (nI 61) I) (fun (I4 : ow_I) => lt (M_emitNumber m (M_ofBarrel m (tn b) 14 I4) I4) (fun (I5 : ow_I) => (I5 m 17, I5))) else if M_ofBarrel m (tn b) 12 I = nI (1 + 2) then lt (M_emit m (nI 120) I) (fun (I6 : ow_I) => (I6 m 17, I6)) else (I m 17, I) else if nI e ≤ 0 then lt (M_emitNumber m (M_lengthOf m (tn b) e I) I) (fun (I7 : ow_I) => M_writeBarrel_L17 m b n I7 (e + 1)) else lt (M_emit m (nI 44) I) (fun (I8 : ow_I) => lt (M_emitNumber m (M_lengthOf m (tn b) e I8) I8) (fun (I9 : ow_I) => M_writeBarrel_L17 m b n I9 (e + 1)))
def M_writeBarrel (m : Nat) (b : Int32) (I : ow_I) : Int32 × ow_I :=
  lt (M_lacksBarrel m b I) (fun (r1 : Bool × ow_I) => if r1.1 then (nI 0, r1.2) else lt (ow_u r1.2 m 17 (nI 0)) (fun (I2 : ow_I) => M_writeBarrel_L17 m b 10 I2 0))
end
section
theorem wq_x {m : Nat} {x : Int32} {I : ow_I} (hx : 0 ≤ x ∧ tn x < 20) (hw : 0 ≤ I m 17) (hb : tn (I m 17) + 10 ≤ 200) : 0 ≤ M_emitNumber m x I m 17 ∧ tn (M_emitNumber m x I m 17) ≤ tn (I m 17) + 2 := by
  have r := @wq_1 m (tn x) I hx.2 hw hb
  rw [nI_tn hx.1] at r
  exact r
theorem wq_y {m : Nat} {x c : Int32} {I : ow_I} (hx : 0 ≤ x ∧ tn x < 20) (hw : 0 ≤ I m 17) (hb : tn (I m 17) + 11 ≤ 200) : 0 ≤ M_emitNumber m x (M_emit m c I) m 17 ∧ tn (M_emitNumber m x (M_emit m c I) m 17) ≤ tn (I m 17) + 3 := by
  have r := @wq_2 m (tn x) c I hx.2 hw hb
  rw [nI_tn hx.1] at r
  exact r
theorem wq_q {A : Nat → Int32} (hv : md_V A) {i : Nat} (h : i < tn (A 12)) : 0 ≤ A (16 + i) ∧ tn (A (16 + i)) < 20 := by
  have q := hv.2.2.2.2.2.2.1 i h
  have := hv.2.2.1
  exact ⟨q.1, by omega⟩
def M_writeQueue_L12 (m : Nat) : Nat → ow_I → Nat → Int32 × ow_I
  | 0, I, _ => (default, I)
  | n + 1, I, i => if tn (I (m + 1) 12) ≤ i then (I m 17, I) else if nI i ≤ 0 then lt (M_emitNumber m (I (m + 1) (16 + i)) I) (fun (I3 : ow_I) => M_writeQueue_L12 m n I3 (i + 1)) else lt (M_emit m (nI 44) I) (fun (I4 : ow_I) => lt (M_emitNumber m (I4 (m + 1) (16 + i)) I4) (fun (I5 : ow_I) => M_writeQueue_L12 m n I5 (i + 1)))
def M_writeQueue (m : Nat) (I : ow_I) : Int32 × ow_I :=
  lt (ow_u I m 18 (nI 0)) (fun (I1 : ow_I) => lt (ow_u I1 m 17 (nI 0)) (fun (I2 : ow_I) => M_writeQueue_L12 m 21 I2 0))
def M_minutesToHorn_L7 (m : Nat) : Nat → ow_I → Nat → Int32 × ow_I
  | 0, I, _ => (default, I)
  | n + 1, I, i => if tn (I (m + 1) 0) < i then ((-1), I) else if M_blowsIn m (I (m + 1) 5 + (nI i)) I then (nI i, I) else M_minutesToHorn_L7 m n I (i + 1)
def M_minutesToHorn (m : Nat) (I : ow_I) : Int32 × ow_I :=
  lt (ow_u I m 18 (nI 0)) (fun (I1 : ow_I) => M_minutesToHorn_L7 m 61 I1 1)
end
