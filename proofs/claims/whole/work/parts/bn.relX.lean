/-! THE TOKENS: both read alike -/
def ky (y : Nat) : Nat := if 97 ≤ y ∧ y ≤ 122 then 1 else if 48 ≤ y ∧ y ≤ 57 then 2 else if y = 59 then 3 else 4
def tq (u m : Nat) (I J : ow_I) (n : Nat) (t : Nat → Nat) : Prop := I u 1 = nI n ∧ J m 5 = nI n ∧ n ≤ 500 ∧ ∀ i, i < n → t i < 256 ∧ I (u + 1) i = nI (t i) ∧ J (m + 3) i = (nI (t i)).toInt8.toInt32
theorem tx_tq {u m n : Nat} {I J : ow_I} (h : tx u m I J n) : ∃ t, tq u m I J n t := by
  obtain ⟨h1, h2, h3, h4⟩ := h
  refine ⟨fun i => tn (I (u + 1) i), h1, h2, h3, fun i hi => ?_⟩
  obtain ⟨y, e1, e2, e3⟩ := h4 i hi
  have : tn (I (u + 1) i) = y := by rw [e2, tn_nI (by omega)]
  show tn (I (u + 1) i) < 256 ∧ I (u + 1) i = nI (tn (I (u + 1) i)) ∧ J (m + 3) i = (nI (tn (I (u + 1) i))).toInt8.toInt32
  rw [this]
  exact ⟨e1, e2, e3⟩
theorem tq_tx {u m n : Nat} {t : Nat → Nat} {I J : ow_I} (h : tq u m I J n t) : tx u m I J n := ⟨h.1, h.2.1, h.2.2.1, fun i hi => ⟨t i, h.2.2.2 i hi⟩⟩
theorem ky_cls : ∀ y : Fin 256, (if nI y.val < nI 97 then if nI y.val < nI 48 then if nI y.val = nI 59 then nI 3 else nI 4 else if nI 57 < nI y.val then if nI y.val = nI 59 then nI 3 else nI 4 else nI 2 else if nI 122 < nI y.val then if nI y.val < nI 48 then if nI y.val = nI 59 then nI 3 else nI 4 else if nI 57 < nI y.val then if nI y.val = nI 59 then nI 3 else nI 4 else nI 2 else nI 1) = nI (ky y.val) := by decide +kernel
theorem ky_ref : ∀ y : Fin 256, ((if (nI y.val).toInt8.toInt32 < nI 97 then false else if nI 122 < (nI y.val).toInt8.toInt32 then false else true) = decide (ky y.val = 1)) ∧ ((if (nI y.val).toInt8.toInt32 < nI 48 then false else if nI 57 < (nI y.val).toInt8.toInt32 then false else true) = decide (ky y.val = 2)) ∧ ((nI y.val).toInt8.toInt32 = nI 59 ↔ ky y.val = 3) ∧ ((nI y.val).toInt8.toInt32 = nI 32 ↔ y.val = 32) ∧ ¬ (nI y.val).toInt8.toInt32 = -1000 ∧ (nI y.val = nI 32 ↔ y.val = 32) ∧ (ky y.val = 2 → (nI y.val).toInt8.toInt32 = nI y.val) := by decide +kernel
theorem ky_w : ∀ y : Fin 256, ky y.val = 1 → ∀ c : Fin 128, ((nI y.val).toInt8.toInt32 = nI c.val ↔ y.val = c.val) := by
  intro y hy c
  have h1 : ∀ y : Fin 256, ky y.val = 1 → (nI y.val).toInt8.toInt32 = nI y.val := by decide +kernel
  rw [h1 y hy, nI_eq (by omega) (by omega)]
section TOK
variable {u m n : Nat} {t : Nat → Nat} {I J I' J' : ow_I}
theorem kd_cls {p : Nat} (h : tq u m I J n t) (hp : p < n) : U_kindAt u (nI p) I = nI (ky (t p)) := by
  obtain ⟨h1, h2, h3, h4⟩ := h
  obtain ⟨g1, g2, g3⟩ := h4 p hp
  unfold U_kindAt
  rw [if_neg (show ¬ nI p < 0 from i_ge (nI_ge0 (by omega))), h1, if_pos ((nI_ltI (by omega) (by omega)).mpr hp), tn_nI (by omega), g2]
  exact ky_cls ⟨t p, g1⟩
theorem kd_end (h : tq u m I J n t) : U_kindAt u (nI n) I = nI 0 := by
  obtain ⟨h1, h2, h3, h4⟩ := h
  unfold U_kindAt
  rw [if_neg (show ¬ nI n < 0 from i_ge (nI_ge0 (by omega))), h1, if_neg (fun z => by have := (nI_ltI (by omega) (by omega)).mp z; omega)]
theorem by_ref {p : Nat} (h : tq u m I J n t) (hp : p < n) : M_byteAt m p J = (nI (t p)).toInt8.toInt32 := by
  obtain ⟨h1, h2, h3, h4⟩ := h
  unfold M_byteAt
  rw [h2, tn_nI (by omega), if_neg (by omega)]
  exact (h4 p hp).2.2
theorem by_end {p : Nat} (h : tq u m I J n t) (hp : n ≤ p) : M_byteAt m p J = -1000 := by
  unfold M_byteAt
  rw [h.2.1, tn_nI (by have := h.2.2.1; omega), if_pos hp]
theorem le_ref {p : Nat} (h : tq u m I J n t) (hp : p < n) : M_isLetter m p J = decide (ky (t p) = 1) := by
  unfold M_isLetter M_in
  rw [by_ref h hp]
  exact (ky_ref ⟨t p, (h.2.2.2 p hp).1⟩).1
theorem di_ref {p : Nat} (h : tq u m I J n t) (hp : p < n) : M_isDigit m p J = decide (ky (t p) = 2) := by
  unfold M_isDigit M_in
  rw [by_ref h hp]
  exact (ky_ref ⟨t p, (h.2.2.2 p hp).1⟩).2.1
theorem le_end {p : Nat} (h : tq u m I J n t) (hp : n ≤ p) : M_isLetter m p J = false := by
  unfold M_isLetter
  rw [by_end h hp]
  rfl
theorem di_end {p : Nat} (h : tq u m I J n t) (hp : n ≤ p) : M_isDigit m p J = false := by
  unfold M_isDigit
  rw [by_end h hp]
  rfl
theorem tq_of (h : tq u m I J n t) (e1 : I' u 1 = I u 1) (e2 : I' (u + 1) = I (u + 1)) (e3 : J' m 5 = J m 5) (e4 : J' (m + 3) = J (m + 3)) : tq u m I' J' n t := by
  unfold tq
  rw [e1, e2, e3, e4]
  exact h
theorem ux_same {a k : Nat} {v : Int32} (h : I a k = v) : ow_u I a k v = I := by
  funext b j
  by_cases c : b = a
  · rw [c, u_one]
    by_cases d : j = k
    · rw [if_pos d, d, h]
    · rw [if_neg d]
  · rw [rr_u c]
theorem ky_4 {y : Nat} : ky y ≤ 4 := by
  unfold ky
  split
  · omega
  · split
    · omega
    · split <;> omega
theorem let_sync : ∀ (k e : Nat) (I J : ow_I), tq u m I J n t → I u 4 = nI e → J m 8 = nI e → e ≤ n → n - e < k → I u 2 = nI 1 →
    ∃ e', e ≤ e' ∧ e' ≤ n ∧ U_advance_L93 u k I 1 = ow_u I u 4 (nI e') ∧ M_readToken_L69 m k J = ow_u J m 8 (nI e') ∧ ∀ i, e ≤ i → i < e' → ky (t i) = 1 := by
  intro k
  induction k with
  | zero => intro e I J h h1 h2 h3 h4; omega
  | succ k ih =>
    intro e I J h h1 h2 h3 h4 h5
    have hn := h.2.2.1
    have t1 : tn (I u 4) = e := by rw [h1, tn_nI (by omega)]
    have t2 : tn (J m 8) = e := by rw [h2, tn_nI (by omega)]
    have t3 : tn (I u 1) = n := by rw [h.1, tn_nI (by omega)]
    unfold U_advance_L93 M_readToken_L69
    rw [t1, t2, t3]
    by_cases c : n ≤ e
    · rw [if_pos c, le_end h c, if_neg (show ¬ false = true by decide)]
      exact ⟨e, Nat.le_refl _, h3, (ux_same h1).symm, (ux_same h2).symm, fun i z1 z2 => by omega⟩
    · rw [if_neg c, h1, kd_cls h (by omega), h5, le_ref h (by omega)]
      by_cases d : ky (t e) = 1
      · rw [if_pos (by rw [d]), if_neg (show ¬ (1 : Nat) = 0 by decide), if_neg (show ¬ nI 1 = nI 2 by decide), if_pos (by rw [d]; rfl), lt_eq, lt_eq, h2, nI_add]
        obtain ⟨e', g1, g2, g3, g4, g5⟩ := ih (e + 1) (ow_u I u 4 (nI (e + 1))) (ow_u J m 8 (nI (e + 1))) (tq_of h (by rw [u_one, if_neg (by decide)]) (rr_u (by omega)) (by rw [u_one, if_neg (by decide)]) (rr_u (by omega))) (ow_u_s _ _ _ _) (ow_u_s _ _ _ _) (by omega) (by omega) (by rw [u_one, if_neg (by decide)]; exact h5)
        refine ⟨e', by omega, g2, by rw [g3, ow_uu], by rw [g4, ow_uu], fun i z1 z2 => ?_⟩
        by_cases q : i = e
        · rw [q]; exact d
        · exact g5 i (by omega) z2
      · rw [if_neg (fun z => d (by
          have := @ky_4 (t e)
          exact (nI_eq (by omega) (by decide)).mp z)), if_neg (by rw [decide_eq_false d]; decide)]
        exact ⟨e, Nat.le_refl _, h3, (ux_same h1).symm, (ux_same h2).symm, fun i z1 z2 => by omega⟩
theorem ky_d {y : Nat} (h : ky y = 2) : 48 ≤ y ∧ y ≤ 57 := by
  unfold ky at h
  split at h
  · omega
  · split at h
    · assumption
    · split at h <;> omega
theorem dig_sync : ∀ (k e w : Nat) (I J : ow_I), tq u m I J n t → I u 4 = nI e → J m 8 = nI e → e ≤ n → n - e < k → I u 2 = nI 2 → I u 5 = nI (min w 1000000) → J m 11 = nI w → w ≤ 10000000 →
    ∃ e' w', e ≤ e' ∧ e' ≤ n ∧ w' ≤ 10000000 ∧ U_advance_L93 u k I 1 = ow_u (ow_u I u 5 (nI (min w' 1000000))) u 4 (nI e') ∧ M_readNumber_L5 m k J = ow_u (ow_u J m 11 (nI w')) m 8 (nI e') := by
  intro k
  induction k with
  | zero => intro e w I J h h1 h2 h3 h4; omega
  | succ k ih =>
    intro e w I J h h1 h2 h3 h4 h5 h6 h7 h8
    have hn := h.2.2.1
    have t1 : tn (I u 4) = e := by rw [h1, tn_nI (by omega)]
    have t2 : tn (J m 8) = e := by rw [h2, tn_nI (by omega)]
    have t3 : tn (I u 1) = n := by rw [h.1, tn_nI (by omega)]
    have stop : ∃ e' w', e ≤ e' ∧ e' ≤ n ∧ w' ≤ 10000000 ∧ I = ow_u (ow_u I u 5 (nI (min w' 1000000))) u 4 (nI e') ∧ J = ow_u (ow_u J m 11 (nI w')) m 8 (nI e') :=
      ⟨e, w, Nat.le_refl _, h3, h8, by rw [ux_same h6, ux_same h1], by rw [ux_same h7, ux_same h2]⟩
    unfold U_advance_L93 M_readNumber_L5
    rw [t1, t2, t3]
    by_cases c : n ≤ e
    · rw [if_pos c, di_end h c, if_neg (show ¬ false = true by decide)]
      exact stop
    · rw [if_neg c, h1, kd_cls h (by omega), h5, di_ref h (by omega)]
      have k4 := @ky_4 (t e)
      by_cases d : ky (t e) = 2
      · have he := h.2.2.2 e (by omega)
        have hd := ky_d d
        have rb := (ky_ref ⟨t e, he.1⟩).2.2.2.2.2.2 d
        rw [if_pos (by rw [d]), if_neg (show ¬ (1 : Nat) = 0 by decide), if_pos rfl, if_pos (by rw [d]; rfl), he.2.1, he.2.2, rb, h6, h7]
        simp only [lt_eq]
        rw [pk_mul, pk_mul, nI_sb (by omega), nI_add, nI_add, nI_sb (by omega)]
        have i10 : i_min (nI (min w 1000000 * 10 + (t e - 48))) (nI 1000000) = nI (min (min w 1000000 * 10 + (t e - 48)) 1000000) := by
          unfold i_min
          by_cases g : 1000000 < min w 1000000 * 10 + (t e - 48)
          · rw [if_pos ((nI_ltI (by omega) (by omega)).mpr g)]
            exact congrArg nI (Nat.min_eq_right (by omega)).symm
          · rw [if_neg (fun z => g ((nI_ltI (by omega) (by omega)).mp z))]
            exact congrArg nI (Nat.min_eq_left (by omega)).symm
        rw [i10]
        have e4 : ow_u I u 5 (nI (min (min w 1000000 * 10 + (t e - 48)) 1000000)) u 4 = nI e := by rw [u_one, if_neg (by decide), h1]
        rw [e4, nI_add, ow_u_s]
        have ex : ∀ w2 : Nat, w2 ≤ 10000000 → min (min w 1000000 * 10 + (t e - 48)) 1000000 = min w2 1000000 → ∃ e' w', e ≤ e' ∧ e' ≤ n ∧ w' ≤ 10000000 ∧ U_advance_L93 u k (ow_u (ow_u I u 5 (nI (min (min w 1000000 * 10 + (t e - 48)) 1000000))) u 4 (nI (e + 1))) 1 = ow_u (ow_u I u 5 (nI (min w' 1000000))) u 4 (nI e') ∧ M_readNumber_L5 m k (ow_u (ow_u J m 11 (nI w2)) m 8 (nI (e + 1))) = ow_u (ow_u J m 11 (nI w')) m 8 (nI e') := by
          intro w2 hw2 hm2
          rw [hm2]
          obtain ⟨e', w', g1, g2, g3, g4, g5⟩ := ih (e + 1) w2 (ow_u (ow_u I u 5 (nI (min w2 1000000))) u 4 (nI (e + 1))) (ow_u (ow_u J m 11 (nI w2)) m 8 (nI (e + 1))) (tq_of h (by rw [u_one, if_neg (by decide), u_one, if_neg (by decide)]) (by rw [rr_u (by omega), rr_u (by omega)]) (by rw [u_one, if_neg (by decide), u_one, if_neg (by decide)]) (by rw [rr_u (by omega), rr_u (by omega)])) (ow_u_s _ _ _ _) (ow_u_s _ _ _ _) (by omega) (by omega) (by rw [u_one, if_neg (by decide), u_one, if_neg (by decide)]; exact h5) (by rw [u_one, if_neg (by decide), ow_u_s]) (by rw [u_one, if_neg (by decide), ow_u_s]) hw2
          refine ⟨e', w', by omega, g2, g3, ?_, ?_⟩
          · rw [g4]
            funext b j
            by_cases z : b = u
            · rw [z]
              simp only [u_one]
              by_cases q4 : j = 4
              · simp only [if_pos q4]
              · by_cases q5 : j = 5
                · simp only [if_neg q4, if_pos q5]
                · simp only [if_neg q4, if_neg q5]
            · rw [rr_u z, rr_u z, rr_u z, rr_u z, rr_u z, rr_u z]
          · rw [g5]
            funext b j
            by_cases z : b = m
            · rw [z]
              simp only [u_one]
              by_cases q4 : j = 8
              · simp only [if_pos q4]
              · by_cases q5 : j = 11
                · simp only [if_neg q4, if_pos q5]
                · simp only [if_neg q4, if_neg q5]
            · rw [rr_u z, rr_u z, rr_u z, rr_u z, rr_u z, rr_u z]
        by_cases g : w * 10 + t e - 48 ≤ 10000000
        · rw [if_pos ((nI_leI (by omega) (by omega)).mpr g), u_one, if_neg (by decide), h2, nI_add]
          exact ex _ g (by omega)
        · rw [if_neg (fun z => g ((nI_leI (by omega) (by omega)).mp z)), ow_uu]
          have : ow_u J m 11 (nI 10000000) m 8 = nI e := by rw [u_one, if_neg (by decide), h2]
          rw [this, nI_add]
          exact ex 10000000 (Nat.le_refl _) (by omega)
      · rw [if_neg (fun z => d ((nI_eq (by omega) (by decide)).mp z)), if_neg (by rw [decide_eq_false d]; decide)]
        exact stop
theorem one_sync {k s : Nat} (h : tq u m I J n t) (h3 : I u 3 = nI s) (h4 : I u 4 = nI s) (hs : s < n) (hk : I u 2 = nI (ky (t s))) (hc : ¬ ky (t s) = 2) : U_advance_L93 u (k + 2) I 0 = ow_u I u 4 (nI (s + 1)) := by
  have hn := h.2.2.1
  have t1 : tn (I u 4) = s := by rw [h4, tn_nI (by omega)]
  have t3 : tn (I u 1) = n := by rw [h.1, tn_nI (by omega)]
  have k4 := @ky_4 (t s)
  unfold U_advance_L93
  rw [t1, t3, if_neg (by omega), h4, kd_cls h hs, hk, if_pos rfl, if_pos rfl, h3, if_pos rfl, if_neg (fun z => hc ((nI_eq (by omega) (by decide)).mp z)), lt_eq, nI_add]
  have h' : tq u m (ow_u I u 4 (nI (s + 1))) J n t := tq_of h (by rw [u_one, if_neg (by decide)]) (rr_u (by omega)) rfl rfl
  have e3 : ow_u I u 4 (nI (s + 1)) u 3 = nI s := by rw [u_one, if_neg (by decide), h3]
  have e4 : ow_u I u 4 (nI (s + 1)) u 4 = nI (s + 1) := ow_u_s _ _ _ _
  unfold U_advance_L93
  by_cases c : tn (ow_u I u 4 (nI (s + 1)) u 1) ≤ tn (ow_u I u 4 (nI (s + 1)) u 4)
  · rw [if_pos c]
  · rw [if_neg c]
    split
    · rw [if_pos rfl, e3, e4, if_neg (fun z => by have := (nI_eq (by omega) (by omega)).mp z; omega)]
    · rfl
/-- both stand at one token -/
def tk (u m : Nat) (I J : ow_I) : Prop := ∃ (n : Nat) (t : Nat → Nat) (s e c : Nat), tq u m I J n t ∧ I u 3 = nI s ∧ J m 10 = nI s ∧ I u 4 = nI e ∧ J m 8 = nI e ∧ s ≤ e ∧ e ≤ n ∧ I u 2 = nI c ∧ J m 9 = nI c ∧ c ≤ 4 ∧ (c = 1 → ∀ i, s ≤ i → i < e → ky (t i) = 1) ∧ (c = 2 → ∃ w, I u 5 = nI (min w 1000000) ∧ J m 11 = nI w ∧ w ≤ 10000000)
theorem skip_sync : ∀ (k s : Nat) (I J : ow_I), tq u m I J n t → I u 3 = nI s → J m 8 = nI s → s ≤ n → n - s < k → tk u m (U_advance_L8 u k I) (M_readToken_L0 m k J) := by
  intro k
  induction k with
  | zero => intro s I J h h1 h2 h3 h4; omega
  | succ k ih =>
    intro s I J h h1 h2 h3 h4
    have hn := h.2.2.1
    have t1 : tn (I u 3) = s := by rw [h1, tn_nI (by omega)]
    have t2 : tn (J m 8) = s := by rw [h2, tn_nI (by omega)]
    have t3 : tn (I u 1) = n := by rw [h.1, tn_nI (by omega)]
    have hJ : tq u m I (ow_u J m 10 (nI s)) n t := tq_of h rfl rfl (by rw [u_one, if_neg (by decide)]) (rr_u (by omega))
    unfold U_advance_L8 M_readToken_L0
    simp only [lt_eq]
    rw [t1, t2, t3, h1, h2]
    have g3 : ow_u I u 4 (nI s) u 3 = nI s := by rw [u_one, if_neg (by decide), h1]
    have hI : tq u m (ow_u I u 4 (nI s)) J n t := tq_of h (by rw [u_one, if_neg (by decide)]) (rr_u (by omega)) rfl rfl
    rw [g3]
    have f8 : ow_u J m 10 (nI s) m 8 = nI s := by rw [u_one, if_neg (by decide), h2]
    have f5 : ow_u J m 10 (nI s) m 5 = nI n := by rw [u_one, if_neg (by decide), h.2.1]
    rw [f8, f5]
    by_cases c : n ≤ s
    · obtain rfl : s = n := by omega
      rw [if_pos c, by_end h c, if_neg (show ¬ (-1000 : Int32) = nI 32 by decide), if_pos rfl, kd_end hI]
      have g2 : ow_u (ow_u (ow_u I u 4 (nI s)) u 2 (nI 0)) u 5 (nI 0) u 2 = nI 0 := by rw [u_one, if_neg (by decide), ow_u_s]
      rw [g2, if_neg (show ¬ nI 0 = nI 1 by decide), if_neg (show ¬ nI 0 = nI 2 by decide)]
      have hz : U_advance_L93 u 501 (ow_u (ow_u (ow_u I u 4 (nI s)) u 2 (nI 0)) u 5 (nI 0)) 0 = ow_u (ow_u (ow_u I u 4 (nI s)) u 2 (nI 0)) u 5 (nI 0) := by
        unfold U_advance_L93
        rw [if_pos]
        simp (disch := omega) only [u_one, if_neg, if_pos, if_true]
        rw [t3, tn_nI (by omega)]
        exact Nat.le_refl _
      rw [hz]
      refine ⟨s, t, s, s, 0, tq_of h ?_ ?_ ?_ ?_, ?_, ?_, ?_, ?_, Nat.le_refl _, Nat.le_refl _, ?_, ow_u_s _ _ _ _, by omega, fun z => by omega, fun z => by omega⟩
      all_goals (simp (disch := omega) only [u_one, rr_u, if_neg, if_pos, if_true, h1, h2])
    · have hp : s < n := by omega
      have hy := h.2.2.2 s hp
      have ky4 := @ky_4 (t s)
      have rr := ky_ref ⟨t s, hy.1⟩
      rw [if_neg c, by_ref h hp, hy.2.1]
      by_cases d : t s = 32
      · rw [if_pos (rr.2.2.2.2.2.1.mpr d), if_pos (rr.2.2.2.1.mpr d), nI_add]
        exact ih (s + 1) _ _ (tq_of h (by rw [u_one, if_neg (by decide)]) (rr_u (by omega)) (by rw [u_one, if_neg (by decide)]) (rr_u (by omega))) (ow_u_s _ _ _ _) (ow_u_s _ _ _ _) (by omega) (by omega)
      · rw [if_neg (fun z => d (rr.2.2.2.2.2.1.mp z)), if_neg (fun z => d (rr.2.2.2.1.mp z)), if_neg (show ¬ nI s = nI n from fun z => by have := (nI_eq (by omega) (by omega)).mp z; omega), kd_cls hI hp, le_ref hJ hp, di_ref hJ hp, by_ref hJ hp]
        have g2 : ow_u (ow_u (ow_u I u 4 (nI s)) u 2 (nI (ky (t s)))) u 5 (nI 0) u 2 = nI (ky (t s)) := by rw [u_one, if_neg (by decide), ow_u_s]
        have g4 : ow_u (ow_u (ow_u I u 4 (nI s)) u 2 (nI (ky (t s)))) u 5 (nI 0) u 4 = nI s := by simp (disch := omega) only [u_one, if_neg, if_pos, if_true]
        have gs : ow_u (ow_u (ow_u I u 4 (nI s)) u 2 (nI (ky (t s)))) u 5 (nI 0) u 3 = nI s := by simp (disch := omega) only [u_one, if_neg, if_pos, if_true, h1]
        have g5 : ow_u (ow_u (ow_u I u 4 (nI s)) u 2 (nI (ky (t s)))) u 5 (nI 0) u 5 = nI 0 := ow_u_s _ _ _ _
        have gt : ∀ J', J' m 5 = J m 5 → J' (m + 3) = J (m + 3) → tq u m (ow_u (ow_u (ow_u I u 4 (nI s)) u 2 (nI (ky (t s)))) u 5 (nI 0)) J' n t := fun J' e1 e2 => tq_of h (by simp (disch := omega) only [u_one, if_neg, if_pos, if_true]) (by simp (disch := omega) only [rr_u]) e1 e2
        generalize ow_u (ow_u (ow_u I u 4 (nI s)) u 2 (nI (ky (t s)))) u 5 (nI 0) = I2 at g2 g4 g5 gs gt ⊢
        rw [g2]
        by_cases k1 : ky (t s) = 1
        · rw [k1] at g2 ⊢
          rw [if_pos rfl, if_pos (show decide (1 = 1) = true from rfl)]
          have e8 : ow_u (ow_u J m 10 (nI s)) m 9 (nI 1) m 8 = nI s := by simp (disch := omega) only [u_one, if_neg, h2]
          have e9 : ow_u (ow_u J m 10 (nI s)) m 9 (nI 1) m 9 = nI 1 := ow_u_s _ _ _ _
          have e10 : ow_u (ow_u J m 10 (nI s)) m 9 (nI 1) m 10 = nI s := by simp (disch := omega) only [u_one, if_neg, if_pos, if_true]
          have hq := gt (ow_u (ow_u J m 10 (nI s)) m 9 (nI 1)) (by simp (disch := omega) only [u_one, if_neg]) (by simp (disch := omega) only [rr_u])
          generalize ow_u (ow_u J m 10 (nI s)) m 9 (nI 1) = J2 at e8 e9 e10 hq ⊢
          obtain ⟨e', z1, z2, z3, z4, z5⟩ := let_sync 501 s I2 J2 hq g4 e8 h3 (by omega) g2
          rw [z3, z4]
          exact ⟨n, t, s, e', 1, tq_of hq (by rw [u_one, if_neg (by decide)]) (rr_u (by omega)) (by rw [u_one, if_neg (by decide)]) (rr_u (by omega)), by rw [u_one, if_neg (by decide), gs], by rw [u_one, if_neg (by decide), e10], ow_u_s _ _ _ _, ow_u_s _ _ _ _, z1, z2, by rw [u_one, if_neg (by decide), g2], by rw [u_one, if_neg (by decide), e9], by omega, fun _ => z5, fun z => by omega⟩
        · rw [if_neg (fun z => k1 ((nI_eq (by omega) (by decide)).mp z)), if_neg (show ¬ decide (ky (t s) = 1) = true by rw [decide_eq_false k1]; decide)]
          by_cases k2 : ky (t s) = 2
          · rw [k2] at g2 ⊢
            rw [if_pos rfl, if_pos (show decide (2 = 2) = true from rfl)]
            simp only [M_readNumber, lt_eq]
            have e8 : ow_u (ow_u (ow_u J m 10 (nI s)) m 9 (nI 2)) m 11 (nI 0) m 8 = nI s := by simp (disch := omega) only [u_one, if_neg, h2]
            have e9 : ow_u (ow_u (ow_u J m 10 (nI s)) m 9 (nI 2)) m 11 (nI 0) m 9 = nI 2 := by simp (disch := omega) only [u_one, if_neg, if_pos, if_true]
            have e10 : ow_u (ow_u (ow_u J m 10 (nI s)) m 9 (nI 2)) m 11 (nI 0) m 10 = nI s := by simp (disch := omega) only [u_one, if_neg, if_pos, if_true]
            have e11 : ow_u (ow_u (ow_u J m 10 (nI s)) m 9 (nI 2)) m 11 (nI 0) m 11 = nI 0 := ow_u_s _ _ _ _
            have hq := gt (ow_u (ow_u (ow_u J m 10 (nI s)) m 9 (nI 2)) m 11 (nI 0)) (by simp (disch := omega) only [u_one, if_neg]) (by simp (disch := omega) only [rr_u])
            generalize ow_u (ow_u (ow_u J m 10 (nI s)) m 9 (nI 2)) m 11 (nI 0) = J2 at e8 e9 e10 e11 hq ⊢
            obtain ⟨e', w', z1, z2, z0, z3, z4⟩ := dig_sync 501 s 0 I2 J2 hq g4 e8 h3 (by omega) g2 g5 e11 (by omega)
            rw [z3, z4]
            refine ⟨n, t, s, e', 2, tq_of hq ?_ ?_ ?_ ?_, ?_, ?_, ow_u_s _ _ _ _, ow_u_s _ _ _ _, z1, z2, ?_, ?_, by omega, fun z => by omega, fun _ => ⟨w', ?_, ?_, z0⟩⟩
            all_goals (simp (disch := omega) only [u_one, rr_u, if_neg, if_pos, if_true, gs, e10, g2, e9])
          · rw [if_neg (fun z => k2 ((nI_eq (by omega) (by decide)).mp z)), if_neg (show ¬ decide (ky (t s) = 2) = true by rw [decide_eq_false k2]; decide)]
            have hq := gt J rfl rfl
            rw [one_sync (k := 499) hq gs g4 hp g2 k2]
            by_cases k3 : ky (t s) = 3
            · rw [if_pos (rr.2.2.1.mpr k3)]
              rw [k3] at g2
              refine ⟨n, t, s, s + 1, 3, tq_of hq ?_ ?_ ?_ ?_, ?_, ?_, ow_u_s _ _ _ _, ?_, by omega, by omega, ?_, ?_, by omega, fun z => by omega, fun z => by omega⟩
              all_goals (try (simp (disch := omega) only [u_one, rr_u, if_neg, if_pos, if_true, gs, g2, h2, nI_add]))
            · rw [if_neg (fun z => k3 (rr.2.2.1.mp z))]
              have k44 : ky (t s) = 4 := by
                have k0 : ¬ ky (t s) = 0 := by
                  unfold ky
                  split
                  · omega
                  · split
                    · omega
                    · split <;> omega
                omega
              rw [k44] at g2
              refine ⟨n, t, s, s + 1, 4, tq_of hq ?_ ?_ ?_ ?_, ?_, ?_, ow_u_s _ _ _ _, ?_, by omega, by omega, ?_, ?_, by omega, fun z => by omega, fun z => by omega⟩
              all_goals (try (simp (disch := omega) only [u_one, rr_u, if_neg, if_pos, if_true, gs, g2, h2, nI_add]))
theorem tok_at {e : Nat} (h : tq u m I J n t) (h1 : I u 4 = nI e) (h2 : J m 8 = nI e) (he : e ≤ n) : tk u m (U_advance u I) (M_readToken m J) := by
  have hn := h.2.2.1
  unfold U_advance M_readToken
  rw [lt_eq, h1]
  exact skip_sync 501 e _ _ (tq_of h (by rw [u_one, if_neg (by decide)]) (rr_u (by omega)) rfl rfl) (ow_u_s _ _ _ _) h2 he (by omega)
theorem tok_next (h : tk u m I J) : tk u m (U_advance u I) (M_readToken m J) := by
  obtain ⟨n, t, s, e, c, h1, h2, h3, h4, h5, h6, h7, h8⟩ := h
  exact tok_at h1 h4 h5 h7
end TOK
