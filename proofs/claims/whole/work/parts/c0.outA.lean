/-! THE OUTPUT: both write one text -/
def ot (m n : Nat) (t : Nat → Nat) (J : ow_I) : Prop := J m 17 = nI n ∧ n ≤ 200 ∧ ∀ i, i < n → t i < 128 ∧ J (m + 6) i = nI (t i)
/-- only the output changed -/
def oF (m : Nat) (J J' : ow_I) : Prop := (∀ b, b ≠ m → b ≠ m + 6 → J' b = J b) ∧ ∀ k, k ≠ 17 → J' m k = J m k
theorem c128 : ∀ c : Fin 128, (nI c.val).toInt8.toInt32.toInt8.toInt32 = nI c.val := by decide +kernel
section OUT
variable {m n : Nat} {t : Nat → Nat} {I J J' J2 : ow_I}
theorem oF_r : oF m J J := ⟨fun _ _ _ => rfl, fun _ _ => rfl⟩
theorem oF_t (h : oF m J J') (g : oF m J' J2) : oF m J J2 := ⟨fun b z1 z2 => (g.1 b z1 z2).trans (h.1 b z1 z2), fun k hk => (g.2 k hk).trans (h.2 k hk)⟩
theorem ot_c {c : Nat} (h : ot m n t J) (hn : n < 200) (hc : c < 128) : ot m (n + 1) (sb_cat t n (fun _ => c)) (M_emit m (nI c) J) ∧ oF m J (M_emit m (nI c) J) := by
  obtain ⟨h1, h2, h3⟩ := h
  simp only [M_emit, lt_eq]
  have := c128 ⟨c, hc⟩
  rw [this, h1, tn_nI (by omega), rr_u (show m ≠ m + 6 by omega), h1, nI_add]
  refine ⟨⟨ow_u_s _ _ _ _, by omega, fun i hi => ?_⟩, fun b z1 z2 => by rw [rr_u z1, rr_u z2], fun k hk => by rw [u_one, if_neg hk, rr_u (by omega)]⟩
  rw [rr_u (by omega), u_one]
  by_cases d : i = n
  · rw [if_pos d, d]
    have : sb_cat t n (fun _ => c) n = c := by
      unfold sb_cat
      rw [if_neg (by omega)]
    rw [this]
    exact ⟨hc, rfl⟩
  · rw [if_neg d, sb_cat_lo (by omega)]
    exact h3 i (by omega)
theorem ot_eq {t' : Nat → Nat} (h : ot m n t J) (e : ∀ i, i < n → t' i = t i) : ot m n t' J := ⟨h.1, h.2.1, fun i hi => by rw [e i hi]; exact h.2.2 i hi⟩
theorem dig_L {v : Nat} (hv : v < 2 ^ 31) : ∀ (k f n : Nat) (t : Nat → Nat) (J : ow_I), k < f → k ≤ 8 → ot m n t J → n + (k + 1) ≤ 200 →
    ot m (n + (k + 1)) (sb_cat t n (fun i => 48 + v / 10 ^ (k - i) % 10)) (M_emitNumber_L18 m (nI v) f J (10 ^ k)) ∧ oF m J (M_emitNumber_L18 m (nI v) f J (10 ^ k)) := by
  intro k
  induction k with
  | zero =>
    intro f n t J hf hk h hn
    obtain ⟨g, rfl⟩ : ∃ g, f = g + 1 := ⟨f - 1, by omega⟩
    unfold M_emitNumber_L18
    rw [if_neg (show ¬ nI (10 ^ 0) ≤ 0 by decide), lt_eq]
    have ed : nI 48 + ((nI v / nI (10 ^ 0)) - (nI v / nI (10 ^ 0)) / nI 10 * nI 10) = nI (48 + v % 10) := by
      rw [pk_div hv (by decide) (by decide), pk_div (by omega) (by decide) (by decide), pk_mul, nI_sb (by omega), nI_add]
      congr 1
      omega
    rw [ed]
    obtain ⟨a1, a2⟩ := ot_c (c := 48 + v % 10) h (by omega) (by omega)
    have stop : ∀ X, M_emitNumber_L18 m (nI v) g X (10 ^ 0 / 10) = X := fun X => by
      cases g with
      | zero => rfl
      | succ g =>
        unfold M_emitNumber_L18
        rw [if_pos (show nI (10 ^ 0 / 10) ≤ 0 by decide)]
    rw [stop]
    refine ⟨ot_eq a1 (fun i hi => ?_), a2⟩
    unfold sb_cat
    by_cases d : i < n
    · rw [if_pos d, if_pos d]
    · rw [if_neg d, if_neg d]
      dsimp only
      rw [show 0 - (i - n) = 0 by omega, Nat.pow_zero, Nat.div_one]
  | succ k ih =>
    intro f n t J hf hk h hn
    obtain ⟨g, rfl⟩ : ∃ g, f = g + 1 := ⟨f - 1, by omega⟩
    have p0 : 0 < 10 ^ (k + 1) := Nat.pow_pos (by decide)
    have p31 : 10 ^ (k + 1) < 2 ^ 31 := Nat.lt_of_le_of_lt (Nat.pow_le_pow_right (by decide) (show k + 1 ≤ 9 by omega)) (by decide)
    have q31 : v / 10 ^ (k + 1) < 2 ^ 31 := Nat.lt_of_le_of_lt (Nat.div_le_self _ _) hv
    unfold M_emitNumber_L18
    rw [if_neg (fun z => by
      have := (nI_leI p31 (by decide)).mp (show nI (10 ^ (k + 1)) ≤ nI 0 from z)
      omega), lt_eq]
    have ed : nI 48 + ((nI v / nI (10 ^ (k + 1))) - (nI v / nI (10 ^ (k + 1))) / nI 10 * nI 10) = nI (48 + v / 10 ^ (k + 1) % 10) := by
      rw [pk_div hv p0 p31, pk_div q31 (by decide) (by decide), pk_mul, nI_sb (by omega), nI_add]
      congr 1
      omega
    rw [ed]
    obtain ⟨a1, a2⟩ := ot_c (c := 48 + v / 10 ^ (k + 1) % 10) h (by omega) (by omega)
    have e10 : 10 ^ (k + 1) / 10 = 10 ^ k := by
      rw [Nat.pow_succ, Nat.mul_div_cancel _ (by decide)]
    rw [e10]
    obtain ⟨b1, b2⟩ := ih g (n + 1) _ _ (by omega) (by omega) a1 (by omega)
    rw [show n + 1 + (k + 1) = n + (k + 1 + 1) by omega] at b1
    refine ⟨ot_eq b1 (fun i hi => ?_), oF_t a2 b2⟩
    unfold sb_cat
    by_cases d : i < n
    · rw [if_pos d, if_pos (show i < n + 1 by omega), if_pos d]
    · by_cases e : i = n
      · rw [if_neg d, if_pos (show i < n + 1 by omega), if_neg d, e, Nat.sub_self]
        dsimp only
        rw [Nat.sub_zero]
      · rw [if_neg d, if_neg (show ¬ i < n + 1 by omega)]
        dsimp only
        rw [show k + 1 - (i - n) = k - (i - (n + 1)) by omega]
/-- a number below 100000 -/
theorem ot_n {v : Nat} (h : ot m n t J) (hv : v < 100000) (hn : n + 5 ≤ 200) : ot m (n + sb_dg v) (sb_cat t n (sb_dec v)) (M_emitNumber m (nI v) J) ∧ oF m J (M_emitNumber m (nI v) J) := by
  have hv31 : v < 2 ^ 31 := by omega
  have dv : ∀ k, k ≤ 4 → nI v / nI (10 ^ k) = nI (v / 10 ^ k) := fun k hk => pk_div hv31 (Nat.pow_pos (by decide)) (Nat.lt_of_le_of_lt (Nat.pow_le_pow_right (by decide) hk) (by decide))
  have lt10 : ∀ k, k ≤ 4 → (nI v / nI (10 ^ k) < nI 10 ↔ v / 10 ^ k < 10) := fun k hk => by
    rw [dv k hk]
    exact nI_ltI (Nat.lt_of_le_of_lt (Nat.div_le_self _ _) hv31) (by decide)
  have step : ∀ k f, k ≤ 4 → ¬ v / 10 ^ k < 10 → M_emitNumber_L2 m (nI v) (f + 1) J (10 ^ k) = M_emitNumber_L2 m (nI v) f J (10 ^ (k + 1)) := fun k f hk hc => by
    have : M_emitNumber_L2 m (nI v) (f + 1) J (10 ^ k) = if nI v / nI (10 ^ k) < nI 10 then M_emitNumber_L18 m (nI v) 11 J (10 ^ k) else M_emitNumber_L2 m (nI v) f J (10 ^ k * 10) := rfl
    rw [this, if_neg (fun z => hc ((lt10 k hk).mp z)), ← Nat.pow_succ]
  have last : ∀ k f, k ≤ 4 → v / 10 ^ k < 10 → M_emitNumber_L2 m (nI v) (f + 1) J (10 ^ k) = M_emitNumber_L18 m (nI v) 11 J (10 ^ k) := fun k f hk hc => by
    have : M_emitNumber_L2 m (nI v) (f + 1) J (10 ^ k) = if nI v / nI (10 ^ k) < nI 10 then M_emitNumber_L18 m (nI v) 11 J (10 ^ k) else M_emitNumber_L2 m (nI v) f J (10 ^ k * 10) := rfl
    rw [this, if_pos ((lt10 k hk).mpr hc)]
  have e0 : M_emitNumber m (nI v) J = M_emitNumber_L2 m (nI v) 10 J (10 ^ 0) := rfl
  have fin : ∀ k, k ≤ 4 → sb_dg v = k + 1 → M_emitNumber m (nI v) J = M_emitNumber_L18 m (nI v) 11 J (10 ^ k) → ot m (n + sb_dg v) (sb_cat t n (sb_dec v)) (M_emitNumber m (nI v) J) ∧ oF m J (M_emitNumber m (nI v) J) := fun k hk hd he => by
    rw [he, hd]
    obtain ⟨a1, a2⟩ := dig_L hv31 k 11 n t J (by omega) (by omega) h (by omega)
    refine ⟨ot_eq a1 (fun i hi => ?_), a2⟩
    unfold sb_cat sb_dec
    rw [hd, Nat.add_sub_cancel]
  by_cases c0 : v < 10
  · exact fin 0 (by decide) (by unfold sb_dg; rw [if_pos c0]) (by rw [e0, last 0 9 (by decide) (by omega)])
  · by_cases c1 : v < 100
    · exact fin 1 (by decide) (by unfold sb_dg; rw [if_neg c0, if_pos c1]) (by rw [e0, step 0 9 (by decide) (by omega), last 1 8 (by decide) (by omega)])
    · by_cases c2 : v < 1000
      · exact fin 2 (by decide) (by unfold sb_dg; rw [if_neg c0, if_neg c1, if_pos c2]) (by rw [e0, step 0 9 (by decide) (by omega), step 1 8 (by decide) (by omega), last 2 7 (by decide) (by omega)])
      · by_cases c3 : v < 10000
        · exact fin 3 (by decide) (by unfold sb_dg; rw [if_neg c0, if_neg c1, if_neg c2, if_pos c3]) (by rw [e0, step 0 9 (by decide) (by omega), step 1 8 (by decide) (by omega), step 2 7 (by decide) (by omega), last 3 6 (by decide) (by omega)])
        · exact fin 4 (by decide) (by unfold sb_dg; rw [if_neg c0, if_neg c1, if_neg c2, if_neg c3, if_pos hv]) (by rw [e0, step 0 9 (by decide) (by omega), step 1 8 (by decide) (by omega), step 2 7 (by decide) (by omega), step 3 6 (by decide) (by omega), last 4 5 (by decide) (by omega)])
theorem wl_b {f : Nat → Nat} {d : Nat} : ∀ k, (∀ j, j < k → sb_dg (f j) ≤ d) → (wl f k).1 ≤ (d + 1) * k ∧ (0 < k → (wl f k).1 + 1 ≤ (d + 1) * k) := by
  intro k
  induction k with
  | zero => intro h; exact ⟨Nat.zero_le _, fun z => by omega⟩
  | succ k ih =>
    intro h
    have q := ih (fun j hj => h j (by omega))
    have hd := h k (by omega)
    have hm : (d + 1) * (k + 1) = (d + 1) * k + (d + 1) := Nat.mul_succ _ _
    by_cases c : 0 < k
    · rw [wl_p c]
      have := q.2 c
      dsimp only
      rw [hm]
      exact ⟨by omega, fun _ => by omega⟩
    · rw [wl_z c]
      have := q.1
      dsimp only
      rw [hm]
      exact ⟨by omega, fun _ => by omega⟩
theorem dg_3 {v : Nat} (h : v < 1000) : sb_dg v ≤ 3 := by
  unfold sb_dg
  (repeat' split) <;> omega
theorem dg_2 {v : Nat} (h : v < 100) : sb_dg v ≤ 2 := by
  unfold sb_dg
  (repeat' split) <;> omega
theorem dg_5 {v : Nat} (h : v < 100000) : sb_dg v ≤ 5 := by
  unfold sb_dg
  (repeat' split) <;> omega
end OUT
