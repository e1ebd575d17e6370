/-! THE WORDS: both know the same -/
theorem wd_f : ∀ w : Fin 8, ∀ j : Fin 8, mi_w.getD (8 * w.val + j.val) 0 = (if j.val < gl_len w.val then gl_ch w.val j.val else 32) ∧ (j.val < gl_len w.val → ¬ gl_ch w.val j.val = 32) ∧ gl_len w.val ≤ 8 ∧ gl_ch w.val j.val < 128 ∧ mi_w.getD (8 * w.val + j.val) 0 < 128 := by decide
theorem wd_1 : ∀ q q' : Fin 8, (∀ j : Fin 8, mi_w.getD (8 * q.val + j.val) 0 = mi_w.getD (8 * q'.val + j.val) 0) → q = q' := by decide +kernel
theorem wd_8 : gl_len 8 = gl_len 2 ∧ ∀ j, gl_ch 8 j = gl_ch 2 j := ⟨rfl, fun _ => rfl⟩
section WRD
variable {u m n : Nat} {t : Nat → Nat} {I J : ow_I}
theorem uw_L {w s : Nat} : ∀ (k i : Nat), gl_len w - i < k → tn (I u 3) = s → (U_isWord_L28 u w k I i = true ↔ ∀ j, i ≤ j → j < gl_len w → I (u + 1) (s + j) = nI (gl_ch w j)) := by
  intro k
  induction k with
  | zero => intro i h; omega
  | succ k ih =>
    intro i h hs
    unfold U_isWord_L28
    by_cases c : gl_len w ≤ i
    · rw [if_pos c]
      exact ⟨fun _ j h1 h2 => by omega, fun _ => rfl⟩
    · rw [if_neg c, hs]
      by_cases d : I (u + 1) (s + i) = nI (gl_ch w i)
      · rw [if_pos d, ih (i + 1) (by omega) hs]
        refine ⟨fun g j h1 h2 => ?_, fun g j h1 h2 => g j (by omega) h2⟩
        by_cases q : j = i
        · rw [q]; exact d
        · exact g j (by omega) h2
      · rw [if_neg d]
        exact ⟨fun z => absurd z (by decide), fun g => absurd (g i (Nat.le_refl _) (by omega)) d⟩
theorem mw_L {w s l : Nat} : ∀ (k i : Nat), 8 - i < k → tn (J m 10) = s → (M_isWordNumber_L20 m w k J l i = true ↔ ∀ j, i ≤ j → j < 8 → (if l ≤ j then J (m + 7) (8 * w + j) = nI 32 else J (m + 3) (s + j) = J (m + 7) (8 * w + j))) := by
  intro k
  induction k with
  | zero => intro i h; omega
  | succ k ih =>
    intro i h hs
    unfold M_isWordNumber_L20
    by_cases c : 8 ≤ i
    · rw [if_pos c]
      exact ⟨fun _ j h1 h2 => by omega, fun _ => rfl⟩
    · rw [if_neg c, hs]
      have step : ∀ {P : Prop}, P → (P ↔ (if l ≤ i then J (m + 7) (8 * w + i) = nI 32 else J (m + 3) (s + i) = J (m + 7) (8 * w + i))) → (M_isWordNumber_L20 m w k J l (i + 1) = true ↔ ∀ j, i ≤ j → j < 8 → (if l ≤ j then J (m + 7) (8 * w + j) = nI 32 else J (m + 3) (s + j) = J (m + 7) (8 * w + j))) := by
        intro P hP e
        rw [ih (i + 1) (by omega) hs]
        refine ⟨fun g j h1 h2 => ?_, fun g j h1 h2 => g j (by omega) h2⟩
        by_cases q : j = i
        · rw [q]; exact e.mp hP
        · exact g j (by omega) h2
      by_cases d : l ≤ i
      · rw [if_pos d]
        by_cases f : J (m + 7) (8 * w + i) = nI 32
        · rw [if_pos f]
          exact step f (by rw [if_pos d])
        · rw [if_neg f]
          refine ⟨fun z => absurd z (by decide), fun g => ?_⟩
          have := g i (Nat.le_refl _) (by omega)
          rw [if_pos d] at this
          exact absurd this f
      · rw [if_neg d]
        by_cases f : J (m + 3) (s + i) = J (m + 7) (8 * w + i)
        · rw [if_pos f]
          exact step f (by rw [if_neg d])
        · rw [if_neg f]
          refine ⟨fun z => absurd z (by decide), fun g => ?_⟩
          have := g i (Nat.le_refl _) (by omega)
          rw [if_neg d] at this
          exact absurd this f
/-- the token, filled with spaces, is the word q -/
def pq (t : Nat → Nat) (s e q : Nat) : Prop := e - s ≤ 8 ∧ ∀ j, j < 8 → mi_w.getD (8 * q + j) 0 = if j < e - s then t (s + j) else 32
theorem mw_iff {w s e : Nat} (hw : w < 8) (h : tq u m I J n t) (hR : RW m J) (h2 : J m 10 = nI s) (h4 : J m 8 = nI e) (hs : s ≤ e) (he : e ≤ n) (hl : ∀ i, s ≤ i → i < e → ky (t i) = 1) : M_isWordNumber m w J = true ↔ pq t s e w := by
  have hn := h.2.2.1
  unfold M_isWordNumber
  have t1 : tn (J m 8) = e := by rw [h4, tn_nI (by omega)]
  have t2 : tn (J m 10) = s := by rw [h2, tn_nI (by omega)]
  rw [t1, t2]
  by_cases c : e - s ≤ 8
  · rw [if_pos c, mw_L 9 0 (by omega) t2]
    have key : ∀ j, j < 8 → ((if e - s ≤ j then J (m + 7) (8 * w + j) = nI 32 else J (m + 3) (s + j) = J (m + 7) (8 * w + j)) ↔ mi_w.getD (8 * w + j) 0 = if j < e - s then t (s + j) else 32) := by
      intro j hj
      have f := wd_f ⟨w, hw⟩ ⟨j, hj⟩
      have f5 : mi_w.getD (8 * w + j) 0 < 128 := f.2.2.2.2
      rw [hR (8 * w + j) (by omega)]
      by_cases d : e - s ≤ j
      · rw [if_pos d, if_neg (by omega), nI_eq (by omega) (by decide)]
      · rw [if_neg d, if_pos (by omega)]
        have g := h.2.2.2 (s + j) (by omega)
        rw [g.2.2]
        have := ky_w ⟨t (s + j), g.1⟩ (hl _ (by omega) (by omega)) ⟨mi_w.getD (8 * w + j) 0, f5⟩
        exact this.trans eq_comm
    exact ⟨fun g => ⟨c, fun j hj => (key j hj).mp (g j (Nat.zero_le _) hj)⟩, fun g j _ hj => (key j hj).mpr (g.2 j hj)⟩
  · rw [if_neg c]
    exact ⟨fun z => absurd z (by decide), fun g => absurd g.1 c⟩
theorem uw_iff {w s e : Nat} (hw : w < 8) (h : tq u m I J n t) (h1 : I u 3 = nI s) (h3 : I u 4 = nI e) (h2 : I u 2 = nI 1) (hs : s ≤ e) (he : e ≤ n) (hl : ∀ i, s ≤ i → i < e → ky (t i) = 1) : U_isWord u w I = true ↔ pq t s e w := by
  have hn := h.2.2.1
  have t1 : tn (I u 3) = s := by rw [h1, tn_nI (by omega)]
  have l8 := (wd_f ⟨w, hw⟩ ⟨0, by omega⟩).2.2.1
  have l8 : gl_len w ≤ 8 := l8
  unfold U_isWord
  rw [if_pos h2, h1, h3, nI_sb hs]
  have lt32 : ∀ i, s ≤ i → i < e → ¬ t i = 32 := fun i z1 z2 z => by
    have := hl i z1 z2
    rw [z] at this
    exact absurd this (by decide)
  have toP : e - s = gl_len w → (∀ j, 0 ≤ j → j < gl_len w → I (u + 1) (s + j) = nI (gl_ch w j)) → pq t s e w := fun c g => by
    refine ⟨by omega, fun j hj => ?_⟩
    have f := wd_f ⟨w, hw⟩ ⟨j, hj⟩
    have f1 : mi_w.getD (8 * w + j) 0 = (if j < gl_len w then gl_ch w j else 32) := f.1
    have f4 : gl_ch w j < 128 := f.2.2.2.1
    rw [f1, c]
    by_cases d : j < gl_len w
    · rw [if_pos d, if_pos d]
      have q := g j (Nat.zero_le _) d
      have r := h.2.2.2 (s + j) (by omega)
      rw [r.2.1] at q
      exact ((nI_eq (by omega) (by omega)).mp q).symm
    · rw [if_neg d, if_neg d]
  have ofP : pq t s e w → e - s = gl_len w ∧ ∀ j, 0 ≤ j → j < gl_len w → I (u + 1) (s + j) = nI (gl_ch w j) := fun ⟨g1, g2⟩ => by
    have g3 : ∀ j, j < 8 → (if j < gl_len w then gl_ch w j else 32) = if j < e - s then t (s + j) else 32 := fun j hj => by
      have f1 : mi_w.getD (8 * w + j) 0 = (if j < gl_len w then gl_ch w j else 32) := (wd_f ⟨w, hw⟩ ⟨j, hj⟩).1
      rw [← f1]
      exact g2 j hj
    have le : e - s = gl_len w := by
      by_cases a : e - s < gl_len w
      · have := g3 (e - s) (by omega)
        rw [if_pos a, if_neg (by omega)] at this
        have f2 : e - s < gl_len w → ¬ gl_ch w (e - s) = 32 := (wd_f ⟨w, hw⟩ ⟨e - s, by omega⟩).2.1
        exact absurd this (f2 a)
      · by_cases b : gl_len w < e - s
        · have := g3 (gl_len w) (by omega)
          rw [if_neg (by omega), if_pos b] at this
          exact absurd this.symm (lt32 _ (by omega) (by omega))
        · omega
    refine ⟨le, fun j _ hj => ?_⟩
    have := g3 j (by omega)
    rw [if_pos hj, if_pos (by omega)] at this
    rw [(h.2.2.2 (s + j) (by omega)).2.1, ← this]
  by_cases c : e - s = gl_len w
  · rw [if_pos (by rw [c]), uw_L (gl_len w + 1) 0 (by omega) t1]
    exact ⟨fun g => toP c g, fun g => (ofP g).2⟩
  · rw [if_neg (fun z => c ((nI_eq (by omega) (by omega)).mp z))]
    exact ⟨fun z => absurd z (by decide), fun g => absurd (ofP g).1 c⟩
theorem pq_1 {s e q q' : Nat} (h : pq t s e q) (h' : pq t s e q') (hq : q < 8) (hq' : q' < 8) : q = q' := by
  have := wd_1 ⟨q, hq⟩ ⟨q', hq'⟩ (fun j => (h.2 j.val j.isLt).trans (h'.2 j.val j.isLt).symm)
  exact Fin.mk.inj this
theorem wo_L : ∀ (k i : Nat), i ≤ 8 → 8 - i < k → ∃ q, i ≤ q ∧ q ≤ 8 ∧ M_wordOf_L13 m k J i = nI q ∧ (q < 8 → M_isWordNumber m q J = true) ∧ ∀ j, i ≤ j → j < q → ¬ M_isWordNumber m j J = true := by
  intro k
  induction k with
  | zero => intro i h1 h2; omega
  | succ k ih =>
    intro i h1 h2
    unfold M_wordOf_L13
    by_cases c : 8 ≤ i
    · rw [if_pos c]
      exact ⟨8, h1, Nat.le_refl _, rfl, fun z => by omega, fun j z1 z2 => by omega⟩
    · rw [if_neg c]
      by_cases d : M_isWordNumber m i J = true
      · rw [if_pos d]
        exact ⟨i, Nat.le_refl _, by omega, rfl, fun _ => d, fun j z1 z2 => by omega⟩
      · rw [if_neg d]
        obtain ⟨q, g1, g2, g3, g4, g5⟩ := ih (i + 1) (by omega) (by omega)
        refine ⟨q, by omega, g2, g3, g4, fun j z1 z2 => ?_⟩
        by_cases f : j = i
        · rw [f]; exact d
        · exact g5 j (by omega) z2
/-- the word that both stand at -/
theorem wo_eq (h : tk u m I J) (hR : RW m J) : ∃ q, q ≤ 8 ∧ M_wordOf m J = nI q ∧ (∀ w, w < 8 → (U_isWord u w I = true ↔ w = q)) ∧ (U_isWord u 8 I = true ↔ q = 2) := by
  obtain ⟨n, t, s, e, c, h1, h2, h3, h4, h5, h6, h7, h8, h9, h10, h11, h12⟩ := h
  have w8 : U_isWord u 8 I = U_isWord u 2 I := by
    have hL : ∀ (k : Nat) (i : Nat), U_isWord_L28 u 8 k I i = U_isWord_L28 u 2 k I i := by
      intro k
      induction k with
      | zero => intro i; rfl
      | succ k ih =>
        intro i
        show (if gl_len 8 ≤ i then true else if I (u + 1) (tn (I u 3) + i) = nI (gl_ch 8 i) then U_isWord_L28 u 8 k I (i + 1) else false) = (if gl_len 2 ≤ i then true else if I (u + 1) (tn (I u 3) + i) = nI (gl_ch 2 i) then U_isWord_L28 u 2 k I (i + 1) else false)
        rw [ih, wd_8.1, wd_8.2]
    unfold U_isWord
    rw [hL, wd_8.1]
  rw [w8]
  unfold M_wordOf
  by_cases hc : c = 1
  · rw [hc] at h8 h9
    rw [if_pos h9]
    obtain ⟨q, -, g2, g3, g4, g5⟩ := @wo_L m J 9 0 (by omega) (by omega)
    have key : ∀ w, w < 8 → (U_isWord u w I = true ↔ w = q) := fun w hw => by
      rw [uw_iff hw h1 h2 h4 h8 h6 h7 (h11 hc)]
      constructor
      · intro z
        have z2 := (mw_iff hw h1 hR h3 h5 h6 h7 (h11 hc)).mpr z
        by_cases a : w < q
        · exact absurd z2 (g5 w (Nat.zero_le _) a)
        · by_cases b : q < 8
          · exact pq_1 z ((mw_iff b h1 hR h3 h5 h6 h7 (h11 hc)).mp (g4 b)) hw b
          · omega
      · intro z
        rw [z] at hw ⊢
        exact (mw_iff hw h1 hR h3 h5 h6 h7 (h11 hc)).mp (g4 hw)
    exact ⟨q, g2, g3, key, (key 2 (by decide)).trans eq_comm⟩
  · rw [if_neg (fun z => hc ((nI_eq (by omega) (by decide)).mp (h9.symm.trans z)))]
    have no : ∀ w, U_isWord u w I = false := fun w => by
      unfold U_isWord
      rw [if_neg (fun z => hc ((nI_eq (by omega) (by decide)).mp (h8.symm.trans z)))]
    refine ⟨8, Nat.le_refl _, rfl, fun w hw => ?_, ?_⟩
    · rw [no]
      exact ⟨fun z => absurd z (by decide), fun z => by omega⟩
    · rw [no]
      exact ⟨fun z => absurd z (by decide), fun z => by omega⟩
end WRD
