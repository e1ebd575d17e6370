/-! WHAT seen RECOUNTS: sorting, sums, worths -/
theorem i32_tri {u v : Int32} (h1 : ¬ u < v) (h2 : ¬ v < u) : u = v := Int32.le_antisymm (i_nlt h2) (i_nlt h1)
def cL (g : Nat → Int32) (v : Int32) : Nat → Nat
  | 0 => 0
  | n + 1 => if g n < v then cL g v n + 1 else cL g v n
def cE (g : Nat → Int32) (v : Int32) : Nat → Nat
  | 0 => 0
  | n + 1 => if g n ≤ v then cE g v n + 1 else cE g v n
def srt (g : Nat → Int32) (n : Nat) : Prop := ∀ i j, i ≤ j → j < n → g i ≤ g j
def prm (g l : Nat → Int32) (n : Nat) : Prop := ∀ v, cL g v n = cL l v n ∧ cE g v n = cE l v n
theorem cL_c {g h : Nat → Int32} {v : Int32} : ∀ n, (∀ k, k < n → g k = h k) → cL g v n = cL h v n := by
  intro n
  induction n with
  | zero => intro _; rfl
  | succ n ih => intro e; simp only [cL]; rw [ih (fun k hk => e k (by omega)), e n (by omega)]
theorem cE_c {g h : Nat → Int32} {v : Int32} : ∀ n, (∀ k, k < n → g k = h k) → cE g v n = cE h v n := by
  intro n
  induction n with
  | zero => intro _; rfl
  | succ n ih => intro e; simp only [cE]; rw [ih (fun k hk => e k (by omega)), e n (by omega)]
section INS
variable {g A : Nat → Int32} {v : Int32} {p : Nat}
theorem ins_L (h1 : ∀ k, k < p → A k = g k) (h2 : A p = v) (w : Int32) : ∀ d, (∀ k, p ≤ k → k < p + d → A (k + 1) = g k) → cL A w (p + d + 1) = cL g w (p + d) + if v < w then 1 else 0 := by
  intro d
  induction d with
  | zero => intro _; show (if A p < w then cL A w p + 1 else cL A w p) = _; rw [cL_c p h1, h2]; split <;> rfl
  | succ d ih =>
    intro h3
    have e := ih (fun k a b => h3 k a (by omega))
    show (if A (p + d + 1) < w then cL A w (p + d + 1) + 1 else cL A w (p + d + 1)) = (if g (p + d) < w then cL g w (p + d) + 1 else cL g w (p + d)) + _
    rw [h3 (p + d) (by omega) (by omega), e]
    split <;> omega
theorem ins_E (h1 : ∀ k, k < p → A k = g k) (h2 : A p = v) (w : Int32) : ∀ d, (∀ k, p ≤ k → k < p + d → A (k + 1) = g k) → cE A w (p + d + 1) = cE g w (p + d) + if v ≤ w then 1 else 0 := by
  intro d
  induction d with
  | zero => intro _; show (if A p ≤ w then cE A w p + 1 else cE A w p) = _; rw [cE_c p h1, h2]; split <;> rfl
  | succ d ih =>
    intro h3
    have e := ih (fun k a b => h3 k a (by omega))
    show (if A (p + d + 1) ≤ w then cE A w (p + d + 1) + 1 else cE A w (p + d + 1)) = (if g (p + d) ≤ w then cE g w (p + d) + 1 else cE g w (p + d)) + _
    rw [h3 (p + d) (by omega) (by omega), e]
    split <;> omega
theorem ins_s {j : Nat} (hs : srt g j) (hp : p ≤ j) (h1 : ∀ k, k < p → A k = g k) (h2 : A p = v) (h3 : ∀ k, p ≤ k → k < j → A (k + 1) = g k ∧ v < g k) (h4 : p = 0 ∨ g (p - 1) ≤ v) : srt A (j + 1) := by
  have key : ∀ a, a < p → g a ≤ v := fun a ha => by
    rcases h4 with h | h
    · omega
    · exact Int32.le_trans (hs a (p - 1) (by omega) (by omega)) h
  intro a b hab hb
  rcases Nat.lt_trichotomy a p with ha | ha | ha
  · rw [h1 a ha]
    rcases Nat.lt_trichotomy b p with hb2 | hb2 | hb2
    · rw [h1 b hb2]; exact hs a b hab (by omega)
    · subst hb2; rw [h2]; exact key a ha
    · obtain ⟨b', rfl⟩ : ∃ b', b = b' + 1 := ⟨b - 1, by omega⟩
      rw [(h3 b' (by omega) (by omega)).1]
      exact hs a b' (by omega) (by omega)
  · subst ha
    rw [h2]
    rcases Nat.lt_or_eq_of_le hab with hb2 | hb2
    · obtain ⟨b', rfl⟩ : ∃ b', b = b' + 1 := ⟨b - 1, by omega⟩
      rw [(h3 b' (by omega) (by omega)).1]
      exact Int32.le_of_lt (h3 b' (by omega) (by omega)).2
    · subst hb2; rw [h2]; exact Int32.le_refl _
  · obtain ⟨a', rfl⟩ : ∃ a', a = a' + 1 := ⟨a - 1, by omega⟩
    obtain ⟨b', rfl⟩ : ∃ b', b = b' + 1 := ⟨b - 1, by omega⟩
    rw [(h3 a' (by omega) (by omega)).1, (h3 b' (by omega) (by omega)).1]
    exact hs a' b' (by omega) (by omega)
theorem ins_p {j : Nat} {l : Nat → Int32} (hq : prm g l j) (hp : p ≤ j) (h1 : ∀ k, k < p → A k = g k) (h2 : A p = v) (h3 : ∀ k, p ≤ k → k < j → A (k + 1) = g k) (hv : v = l j) : prm A l (j + 1) := by
  intro w
  obtain ⟨d, rfl⟩ : ∃ d, j = p + d := ⟨j - p, by omega⟩
  rw [ins_L h1 h2 w d h3, ins_E h1 h2 w d h3, (hq w).1, (hq w).2, hv]
  constructor
  · show _ = if l (p + d) < w then _ else _
    split <;> rfl
  · show _ = if l (p + d) ≤ w then _ else _
    split <;> rfl
end INS
theorem cE_m (g : Nat → Int32) (v : Int32) (m : Nat) : cE g v m ≤ cE g v (m + 1) := by
  simp only [cE]
  split <;> omega
section RNK
variable {l g : Nat → Int32} {n k : Nat} {u v : Int32}
theorem cEL (h : u < v) : ∀ n, cE l u n ≤ cL l v n := by
  intro n
  induction n with
  | zero => exact Nat.le_refl _
  | succ n ih =>
    simp only [cE, cL]
    by_cases e : l n ≤ u
    · rw [if_pos e, if_pos (Int32.lt_of_le_of_lt e h)]; omega
    · rw [if_neg e]; split <;> omega
theorem rk_u (hu : cL l u n ≤ k ∧ k < cE l u n) (hv : cL l v n ≤ k ∧ k < cE l v n) : u = v := by
  refine i32_tri (fun h => ?_) (fun h => ?_)
  · have := cEL (l := l) h n; omega
  · have := cEL (l := l) h n; omega
theorem rk_s (hs : srt g n) (hk : k < n) : cL g (g k) n ≤ k ∧ k < cE g (g k) n := by
  constructor
  · have : ∀ m, m ≤ n → cL g (g k) m ≤ k := by
      intro m
      induction m with
      | zero => intro _; exact Nat.zero_le _
      | succ m ih =>
        intro hm
        simp only [cL]
        by_cases e : g m < g k
        · rw [if_pos e]
          have hlt : m < k := by
            refine Nat.lt_of_not_le (fun h => ?_)
            exact absurd (hs k m h (by omega)) (Int32.not_le.mpr e)
          have : cL g (g k) m ≤ m := by
            clear ih e hm hlt
            induction m with
            | zero => exact Nat.le_refl _
            | succ m ih => simp only [cL]; split <;> omega
          omega
        · rw [if_neg e]; exact ih (by omega)
    exact this n (Nat.le_refl _)
  · have h1 : ∀ m, m ≤ k + 1 → cE g (g k) m = m := by
      intro m
      induction m with
      | zero => intro _; rfl
      | succ m ih =>
        intro hm
        simp only [cE]
        rw [if_pos (hs m k (by omega) hk), ih (by omega)]
    have h2 : ∀ d, cE g (g k) (k + 1) ≤ cE g (g k) (k + 1 + d) := by
      intro d
      induction d with
      | zero => exact Nat.le_refl _
      | succ d ih => exact Nat.le_trans ih (cE_m g (g k) (k + 1 + d))
    have h3 := h2 (n - (k + 1))
    rw [h1 (k + 1) (Nat.le_refl _), show k + 1 + (n - (k + 1)) = n by omega] at h3
    omega
theorem rk_ex : ∀ n, cL l u n < cE l u n → ∃ i, i < n ∧ l i = u := by
  intro n
  induction n with
  | zero => intro h; exact absurd h (Nat.lt_irrefl _)
  | succ n ih =>
    intro h
    by_cases e : l n = u
    · exact ⟨n, by omega, e⟩
    · simp only [cL, cE] at h
      have h2 : cL l u n < cE l u n := by
        by_cases e1 : l n < u
        · rw [if_pos e1, if_pos (Int32.le_of_lt e1)] at h; omega
        · rw [if_neg e1] at h
          by_cases e2 : l n ≤ u
          · exact absurd (i32_tri e1 (Int32.not_lt.mpr e2)) e
          · rw [if_neg e2] at h; exact h
      obtain ⟨i, hi, e2⟩ := ih h2
      exact ⟨i, by omega, e2⟩
end RNK
theorem nI_lt' {a b : Nat} (ha : a < 2 ^ 31) (hb : b < 2 ^ 31) : nI a < nI b ↔ a < b := by
  constructor
  · intro h
    refine Nat.lt_of_not_le (fun h2 => ?_)
    exact absurd (nI_rg h2 ha) (Int32.not_le.mpr h)
  · intro h; exact nI_lt h hb
theorem nI_le' {a b : Nat} (ha : a < 2 ^ 31) (hb : b < 2 ^ 31) : nI a ≤ nI b ↔ a ≤ b := by
  constructor
  · intro h
    refine Nat.le_of_not_lt (fun h2 => ?_)
    exact absurd (nI_lt h2 ha) (Int32.not_lt.mpr h)
  · intro h; exact nI_rg h hb
theorem cL_le (l : Nat → Int32) (v : Int32) : ∀ n, cL l v n ≤ n := by
  intro n
  induction n with
  | zero => exact Nat.le_refl _
  | succ n ih => simp only [cL]; split <;> omega
theorem cE_le (l : Nat → Int32) (v : Int32) : ∀ n, cE l v n ≤ n := by
  intro n
  induction n with
  | zero => exact Nat.le_refl _
  | succ n ih => simp only [cE]; split <;> omega
section LAR
variable {b : Nat} {I : ow_I} {n kk : Nat}
theorem l18 (k : Int32) (i : Nat) (hn : tn (I b 1) = n) : ∀ fuel o, o ≤ n → n < o + fuel → B_lengthAtRank_L18 b k fuel I i (cL (I (b + 1)) (I (b + 1) i) o) (cE (I (b + 1)) (I (b + 1) i) o) o = (cL (I (b + 1)) (I (b + 1) i) n, cE (I (b + 1)) (I (b + 1) i) n) := by
  intro fuel
  induction fuel with
  | zero => intro o h1 h2; omega
  | succ fuel ih =>
    intro o h1 h2
    simp only [B_lengthAtRank_L18]
    by_cases e : tn (I b 1) ≤ o
    · rw [if_pos e]
      have : o = n := by omega
      rw [this]
    · rw [if_neg e]
      have ho : o + 1 ≤ n := by omega
      have hr := ih (o + 1) ho (by omega)
      simp only [cL, cE] at hr
      by_cases e1 : I (b + 1) i ≤ I (b + 1) o
      · have e2 : ¬ I (b + 1) o < I (b + 1) i := Int32.not_lt.mpr e1
        rw [if_neg e2] at hr
        rw [if_pos e1]
        by_cases e3 : I (b + 1) i < I (b + 1) o
        · rw [if_neg (Int32.not_le.mpr e3)] at hr
          rw [if_pos e3]
          exact hr
        · rw [if_pos (i_nlt e3)] at hr
          rw [if_neg e3]
          exact hr
      · have e2 : I (b + 1) o < I (b + 1) i := i_lt e1
        rw [if_pos e2, if_pos (Int32.le_of_lt e2)] at hr
        rw [if_neg e1]
        rw [if_neg (fun h => absurd (Int32.le_of_lt h) e1)]
        exact hr
theorem l2 {u : Int32} (hn : tn (I b 1) = n) (hn9 : n ≤ 9) (hk : kk < 2 ^ 31) (hu : cL (I (b + 1)) u n ≤ kk ∧ kk < cE (I (b + 1)) u n) : ∀ fuel i, n < i + fuel → (∃ i', i ≤ i' ∧ i' < n ∧ I (b + 1) i' = u) → B_lengthAtRank_L2 b (nI kk) fuel I i = u := by
  intro fuel
  induction fuel with
  | zero => intro i h1 ⟨i', h2, h3, _⟩; omega
  | succ fuel ih =>
    intro i h1 ⟨i', h2, h3, h4⟩
    simp only [B_lengthAtRank_L2, lt]
    rw [if_neg (by omega)]
    have e := l18 (I := I) (b := b) (nI kk) i hn 10 0 (Nat.zero_le _) (by omega)
    rw [show cL (I (b + 1)) (I (b + 1) i) 0 = 0 from rfl, show cE (I (b + 1)) (I (b + 1) i) 0 = 0 from rfl] at e
    rw [e]
    have c1 := cL_le (I (b + 1)) (I (b + 1) i) n
    have c2 := cE_le (I (b + 1)) (I (b + 1) i) n
    have next : I (b + 1) i ≠ u → ∃ i', i + 1 ≤ i' ∧ i' < n ∧ I (b + 1) i' = u := fun hne => ⟨i', by
      rcases Nat.lt_or_eq_of_le h2 with h | h
      · omega
      · subst h; exact absurd h4 hne, h3, h4⟩
    by_cases e1 : nI kk < nI (cL (I (b + 1)) (I (b + 1) i) n)
    · rw [if_pos e1]
      have e1' := (nI_lt' hk (by omega)).mp e1
      exact ih (i + 1) (by omega) (next (fun h => by rw [h] at e1'; omega))
    · rw [if_neg e1]
      by_cases e2 : nI (cE (I (b + 1)) (I (b + 1) i) n) ≤ nI kk
      · rw [if_pos e2]
        have e2' := (nI_le' (by omega) hk).mp e2
        exact ih (i + 1) (by omega) (next (fun h => by rw [h] at e2'; omega))
      · rw [if_neg e2]
        have e1' : ¬ kk < cL (I (b + 1)) (I (b + 1) i) n := fun h => e1 ((nI_lt' hk (by omega)).mpr h)
        have e2' : ¬ cE (I (b + 1)) (I (b + 1) i) n ≤ kk := fun h => e2 ((nI_le' (by omega) hk).mpr h)
        exact rk_u (k := kk) ⟨by omega, by omega⟩ hu
theorem lar {g : Nat → Int32} (hn : tn (I b 1) = n) (hn9 : n ≤ 9) (hk : kk < n) (hs : srt g n) (hp : prm g (I (b + 1)) n) : B_lengthAtRank b (nI kk) I = g kk := by
  have h1 := rk_s hs hk
  rw [(hp _).1, (hp _).2] at h1
  obtain ⟨i, hi, e⟩ := rk_ex n (u := g kk) (l := I (b + 1)) (by omega)
  exact l2 hn hn9 (by omega) h1 10 0 (by omega) ⟨i, Nat.zero_le _, hi, e⟩
end LAR
theorem i_maxl (a b : Int32) : a ≤ i_max a b ∧ b ≤ i_max a b := by
  unfold i_max
  split
  · exact ⟨Int32.le_of_lt (by assumption), Int32.le_refl _⟩
  · exact ⟨Int32.le_refl _, i_nlt (by assumption)⟩
theorem i_maxu {a b c : Int32} (h1 : a ≤ c) (h2 : b ≤ c) : i_max a b ≤ c := by
  unfold i_max
  split
  · exact h2
  · exact h1
theorem maxL_ge (l : Nat → Int32) : ∀ n i, i < n → l i ≤ maxL l n := by
  intro n
  induction n with
  | zero => intro i h; omega
  | succ n ih =>
    intro i h
    show _ ≤ i_max (maxL l n) (l n)
    rcases Nat.lt_or_eq_of_le (Nat.le_of_lt_succ h) with h | h
    · exact Int32.le_trans (ih i h) (i_maxl _ _).1
    · subst h; exact (i_maxl _ _).2
theorem maxL_le (l : Nat → Int32) {c : Int32} (hc : 0 ≤ c) : ∀ n, (∀ i, i < n → l i ≤ c) → maxL l n ≤ c := by
  intro n
  induction n with
  | zero => intro _; exact hc
  | succ n ih =>
    intro h
    exact i_maxu (ih (fun i hi => h i (by omega))) (h n (by omega))
theorem cE_all {l : Nat → Int32} {v : Int32} : ∀ n, cE l v n = n → ∀ i, i < n → l i ≤ v := by
  intro n
  induction n with
  | zero => intro _ i h; omega
  | succ n ih =>
    intro h i hi
    simp only [cE] at h
    have h1 := cE_le l v n
    by_cases e : l n ≤ v
    · rw [if_pos e] at h
      rcases Nat.lt_or_eq_of_le (Nat.le_of_lt_succ hi) with h2 | h2
      · exact ih (by omega) i h2
      · subst h2; exact e
    · rw [if_neg e] at h; omega
/-- the last of the sorted is the greatest -/
theorem gre_s {l g : Nat → Int32} {n : Nat} (h1 : 1 ≤ n) (hs : srt g n) (hp : prm g l n) (h0 : ∀ i, i < n → 0 ≤ l i) : maxL l n = g (n - 1) := by
  have e1 : cE g (g (n - 1)) n = n := by
    have : ∀ m, m ≤ n → cE g (g (n - 1)) m = m := by
      intro m
      induction m with
      | zero => intro _; rfl
      | succ m ih => intro hm; simp only [cE]; rw [if_pos (hs m (n - 1) (by omega) (by omega)), ih (by omega)]
    exact this n (Nat.le_refl _)
  have h2 := rk_s hs (show n - 1 < n by omega)
  rw [(hp _).1, (hp _).2] at h2
  obtain ⟨i, hi, e⟩ := rk_ex n (u := g (n - 1)) (l := l) (by omega)
  rw [(hp _).2] at e1
  refine Int32.le_antisymm (maxL_le l (by rw [← e]; exact h0 i hi) n (cE_all n e1)) ?_
  rw [← e]
  exact maxL_ge l n i hi
