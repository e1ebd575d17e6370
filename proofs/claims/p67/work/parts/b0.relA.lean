/-! THE RELATION of a market of the class (rows at a) and a block of the reference (cells f) -/
def sumL (g : Nat → Int32) : Nat → Int32
  | 0 => 0
  | n + 1 => sumL g n + g n
def maxL (g : Nat → Int32) : Nat → Int32
  | 0 => 0
  | n + 1 => i_max (maxL g n) (g n)
def lonL (g : Nat → Int32) : Nat → Nat
  | 0 => 0
  | n + 1 => if g n < nI 60 then lonL g n else lonL g n + 1
def rb (r l g : Nat → Int32) : Prop := (r 1 = g 0 ∧ r 2 = sumL (fun e => g (1 + e)) (tn (g 0)) ∧ r 3 = maxL (fun e => g (1 + e)) (tn (g 0)) ∧ r 4 = nI (lonL (fun e => g (1 + e)) (tn (g 0)))) ∧ (∀ e, e < tn (g 0) → l e = g (1 + e)) ∧ r 5 = g 10 ∧ r 6 = g 11 ∧ r 7 = g 12 ∧ r 8 = g 13 ∧ r 9 = g 14
def rY (a : Nat) (I : ow_I) (f : Nat → Int32) : Prop := ∀ i, i < tn (f 6) → ∀ w, w < 5 → I (a + 5 + i) w = f (36 + 5 * i + w)
def rQ (a : Nat) (I : ow_I) (f : Nat → Int32) : Prop := ∀ i, i < tn (f 12) → I (a + 4) i = f (16 + i)
def rB (a : Nat) (I : ow_I) (f : Nat → Int32) : Prop := ∀ k, k < tn (f 7) → rb (I (a + 11 + 2 * k)) (I (a + 11 + 2 * k + 1)) (fun w => f (66 + 15 * k + w))
def rl (a : Nat) (I : ow_I) (f : Nat → Int32) : Prop :=
  (I (a + 1) 0 = f 0 ∧ I (a + 1) 1 = f 1 ∧ I (a + 1) 2 = f 5) ∧
  (I a 1 = f 2 ∧ I a 2 = f 3 ∧ I a 3 = f 4 ∧ I a 4 = f 13 ∧ I a 5 = f 14 ∧ I a 6 = f 15) ∧
  (I a 8 = f 6 ∧ I a 10 = f 7 ∧ I a 12 = f 12) ∧
  (I a 13 = f 8 ∧ I a 15 = f 10 ∧ I a 14 = (if f 10 = -1 then -1 else f 9) ∧ I a 16 = if f 8 = -1 then -1 else f 11) ∧
  rY a I f ∧ rQ a I f ∧ rB a I f
/-- how many barrels are sold -/
def sdN (f : Nat → Int32) : Nat → Nat
  | 0 => 0
  | k + 1 => if f (66 + 15 * k + 12) = nI 2 then sdN f k + 1 else sdN f k
def iB (g : Nat → Int32) : Prop := (∃ r : Nat, g 10 = nI r ∧ 1 ≤ r ∧ r ≤ 999) ∧ (∃ s : Nat, g 12 = nI s ∧ s ≤ 3) ∧ (g 12 = nI 2 → ∃ c : Nat, g 14 = nI c ∧ c ≤ 99999) ∧ ∀ e, e < tn (g 0) → ∃ x : Nat, g (1 + e) = nI x ∧ 10 ≤ x ∧ x ≤ 150
def iH (B : Nat) (f : Nat → Int32) : Prop := (∃ p l : Nat, f 0 = nI p ∧ 5 ≤ p ∧ p ≤ 60 ∧ f 1 = nI l ∧ 1 ≤ l ∧ l ≤ p) ∧ (∃ p : Nat, f 2 = nI p ∧ 1 ≤ p ∧ p ≤ 9) ∧ (∃ s : Nat, f 3 = nI s ∧ 1 ≤ s ∧ s ≤ 50) ∧ (∃ s : Nat, f 4 = nI s ∧ s ≤ 50) ∧ ∃ n : Nat, f 5 = nI n ∧ n ≤ B
def iY (f : Nat → Int32) : Prop := ∀ i, i < tn (f 6) → ∃ c : Nat, f (36 + 5 * i) = nI c ∧ c ≤ 99999
def iK (f : Nat → Int32) : Prop := ∀ k, k < tn (f 7) → iB (fun w => f (66 + 15 * k + w))
def iO (f : Nat → Int32) : Prop := 0 ≤ f 8 → f (66 + 15 * tn (f 8) + 12) = nI 1 ∧ ∃ q : Nat, f 11 = nI q ∧ q < tn (f 2)
def iL (f : Nat → Int32) : Prop := 0 ≤ f 10 → ∃ c : Nat, f 9 = nI c ∧ c + c * tn (f 4) / 100 ≤ tn (f (36 + 5 * tn (f 10)))
def iS (f : Nat → Int32) : Prop := ∃ c : Nat, f 13 = nI c ∧ c ≤ 100000 * sdN f (tn (f 7))
/-- what holds of a block besides md_V -/
def iv (B : Nat) (f : Nat → Int32) : Prop := iH B f ∧ iY f ∧ iK f ∧ iO f ∧ iL f ∧ iS f
theorem nm1 {x : Int32} (h : 0 ≤ x) : ¬ x = -1 := by
  intro e
  rw [e] at h
  exact i_m1 h
theorem mV8 {f : Nat → Int32} (hv : md_V f) : f 8 = -1 ∨ (0 ≤ f 8 ∧ tn (f 8) < tn (f 7)) := by
  rcases hv.2.2.2.1 with h | h
  · exact Or.inl h
  · exact Or.inr ⟨h.1, h.2.1⟩
theorem mV10 {f : Nat → Int32} (hv : md_V f) : f 10 = -1 ∨ (0 ≤ f 10 ∧ tn (f 10) < tn (f 6) ∧ 0 ≤ f 8) := hv.2.2.2.2.1
section RLA
variable {a m : Nat} {I J : ow_I}
theorem np_eq (h : rl a I (J (m + 1))) (hv : md_V (J (m + 1))) (h8 : 0 ≤ J (m + 1) 8) : K_nextPrice a I = M_bidNext m J := by
  obtain ⟨-, ⟨-, e3, -⟩, -, ⟨e8, e10, e9, -⟩, -, -, hB⟩ := h
  unfold K_nextPrice M_bidNext
  rw [e8, e10, e9, e3, if_neg (nm1 h8)]
  rcases mV10 hv with q | q
  · rw [if_pos q, if_neg (by rw [q]; decide)]
    rcases mV8 hv with q8 | q8
    · exact absurd q8 (nm1 h8)
    · exact (hB _ q8.2).2.2.1
  · rw [if_neg (nm1 q.1), if_neg (nm1 q.1), if_pos q.1]
theorem fee_eq {p : Int32} (h : rl a I (J (m + 1))) : K_withFee a p I = M_costOfPrice m p J := by
  unfold K_withFee M_costOfPrice
  rw [h.2.1.2.2.1]
theorem hb_eq {x : Int32} (h : rl a I (J (m + 1))) : K_hasBuyer a x I = true ↔ (0 ≤ x ∧ x < J (m + 1) 6) := by
  unfold K_hasBuyer
  rw [h.2.2.1.1]
  by_cases c : x < 0
  · rw [if_pos c]
    refine ⟨fun z => absurd z (by decide), fun z => ?_⟩
    have := z.1
    rw [Int32.le_iff_toInt_le] at this
    rw [Int32.lt_iff_toInt_lt] at c
    omega
  · rw [if_neg c]
    by_cases d : J (m + 1) 6 ≤ x
    · rw [if_pos d]
      refine ⟨fun z => absurd z (by decide), fun z => ?_⟩
      have := z.2
      rw [Int32.le_iff_toInt_le] at d
      rw [Int32.lt_iff_toInt_lt] at this
      omega
    · rw [if_neg d]
      exact ⟨fun _ => ⟨i_nlt c, i_lt d⟩, fun _ => rfl⟩
theorem nI_lt_of {b : Nat} {x : Int32} (hx : 0 ≤ x) (hb : b < tn x) (hB : b < 2 ^ 31) : 0 ≤ nI b ∧ nI b < x := by
  refine ⟨nI_ge0 hB, ?_⟩
  rw [← nI_tn hx]
  exact nI_lt hb (tn_lt x)
theorem low_eq {t : Nat} (h0 : I t 0 = J (m + 1) 0) (h1 : I t 1 = J (m + 1) 1) (h2 : I t 2 = J (m + 1) 5) {B : Nat} (hi : iv B (J (m + 1))) : T_isLow t I = M_isOpenNow m J := by
  obtain ⟨⟨⟨p, l, e0, p5, p60, -⟩, -⟩, -⟩ := hi
  unfold T_isLow M_isOpenNow M_isOpenIn
  rw [h0, h1, h2, if_neg]
  rw [e0]
  intro z
  exact absurd ((nI_leI (b := 0) (by omega) (by decide)).mp z) (by omega)
theorem ref_eq {b B : Nat} (h : rl a I (J (m + 1))) (hv : md_V (J (m + 1))) (hi : iv B (J (m + 1))) (hb : b < tn (J (m + 1) 6)) : K_refusal a (nI b) I = M_reasonAgainst m b J := by
  have h6 := hv.2.1
  have hlow := low_eq h.1.1 h.1.2.1 h.1.2.2 hi
  unfold K_refusal M_reasonAgainst
  rw [hlow]
  by_cases c : M_isOpenNow m J = true
  · rw [if_pos c, if_pos c, h.2.2.2.1.1]
    rcases mV8 hv with q8 | q8
    · rw [if_pos q8, if_neg (by rw [q8]; decide)]
    · rw [if_neg (nm1 q8.1), if_pos q8.1, h.2.2.2.1.2.1]
      by_cases d : nI b = J (m + 1) 10
      · rw [if_pos d, if_pos d.symm]
      · rw [if_neg d, if_neg (show ¬ J (m + 1) 10 = nI b from fun z => d z.symm), if_pos ((hb_eq h).mpr (nI_lt_of h6.1 hb (by omega))), np_eq h hv q8.1, fee_eq h, tn_nI (by omega), h.2.2.2.2.1 b hb 0 (by decide)]
        show (if J (m + 1) (36 + 5 * b + 0) < _ then _ else _) = if _ ≤ J (m + 1) (36 + 5 * b + 0) then _ else _
        by_cases e : J (m + 1) (36 + 5 * b + 0) < M_costOfPrice m (M_bidNext m J) J
        · rw [if_pos e, if_neg (fun z => by rw [Int32.le_iff_toInt_le] at z; rw [Int32.lt_iff_toInt_lt] at e; omega)]
        · rw [if_neg e, if_pos (i_nlt e)]
  · rw [if_neg c, if_neg c]
theorem tot_eq {k : Nat} (hk : tn (J (m + 1) (66 + 15 * k)) ≤ 9) : M_totalOf m k J = sumL (fun e => J (m + 1) (66 + 15 * k + (1 + e))) (tn (J (m + 1) (66 + 15 * k))) := by
  have L : ∀ (n e : Nat), e ≤ tn (J (m + 1) (66 + 15 * k)) → tn (J (m + 1) (66 + 15 * k)) - e < n → M_totalOf_L4 m k n J (sumL (fun e => J (m + 1) (66 + 15 * k + (1 + e))) e) e = sumL (fun e => J (m + 1) (66 + 15 * k + (1 + e))) (tn (J (m + 1) (66 + 15 * k))) := by
    intro n
    induction n with
    | zero => intro e _ h; omega
    | succ n ih =>
      intro e he hn
      unfold M_totalOf_L4
      by_cases c : tn (M_ofBarrel m k 0 J) ≤ e
      · rw [if_pos c]
        have c2 : tn (J (m + 1) (66 + 15 * k)) ≤ e := c
        rw [show e = tn (J (m + 1) (66 + 15 * k)) by omega]
      · rw [if_neg c]
        have c2 : ¬ tn (J (m + 1) (66 + 15 * k)) ≤ e := c
        exact ih (e + 1) (by omega) (by omega)
  exact L 10 0 (Nat.zero_le _) (by omega)
theorem gre_eq {k : Nat} (hk : tn (J (m + 1) (66 + 15 * k)) ≤ 9) : M_greatestOf m k J = maxL (fun e => J (m + 1) (66 + 15 * k + (1 + e))) (tn (J (m + 1) (66 + 15 * k))) := by
  have L : ∀ (n e : Nat), e ≤ tn (J (m + 1) (66 + 15 * k)) → tn (J (m + 1) (66 + 15 * k)) - e < n → M_greatestOf_L4 m k n J (maxL (fun e => J (m + 1) (66 + 15 * k + (1 + e))) e) e = maxL (fun e => J (m + 1) (66 + 15 * k + (1 + e))) (tn (J (m + 1) (66 + 15 * k))) := by
    intro n
    induction n with
    | zero => intro e _ h; omega
    | succ n ih =>
      intro e he hn
      unfold M_greatestOf_L4
      by_cases c : tn (M_ofBarrel m k 0 J) ≤ e
      · rw [if_pos c]
        have c2 : tn (J (m + 1) (66 + 15 * k)) ≤ e := c
        rw [show e = tn (J (m + 1) (66 + 15 * k)) by omega]
      · rw [if_neg c]
        have c2 : ¬ tn (J (m + 1) (66 + 15 * k)) ≤ e := c
        have c3 := ih (e + 1) (by omega) (by omega)
        show (if J (m + 1) (66 + 15 * k + (1 + e)) ≤ maxL (fun e => J (m + 1) (66 + 15 * k + (1 + e))) e then _ else M_greatestOf_L4 m k n J (J (m + 1) (66 + 15 * k + (1 + e))) (e + 1)) = _
        rw [← c3]
        show _ = M_greatestOf_L4 m k n J (i_max (maxL (fun e => J (m + 1) (66 + 15 * k + (1 + e))) e) (J (m + 1) (66 + 15 * k + (1 + e)))) (e + 1)
        unfold i_max
        by_cases d : J (m + 1) (66 + 15 * k + (1 + e)) ≤ maxL (fun e => J (m + 1) (66 + 15 * k + (1 + e))) e
        · rw [if_pos d, if_neg (fun z => by rw [Int32.le_iff_toInt_le] at d; rw [Int32.lt_iff_toInt_lt] at z; omega)]
        · rw [if_neg d, if_pos (i_lt d)]
  exact L 10 0 (Nat.zero_le _) (by omega)
def shoL (g : Nat → Int32) (x : Int32) : Nat → Nat
  | 0 => 0
  | n + 1 => if g n < x then shoL g x n + 1 else shoL g x n
theorem sho_lon (g : Nat → Int32) : ∀ n, shoL g (nI 60) n + lonL g n = n := by
  intro n
  induction n with
  | zero => rfl
  | succ n ih =>
    unfold shoL lonL
    by_cases c : g n < nI 60
    · rw [if_pos c, if_pos c]
      omega
    · rw [if_neg c, if_neg c]
      omega
theorem sho_le (g : Nat → Int32) (x : Int32) : ∀ n, shoL g x n ≤ n := by
  intro n
  induction n with
  | zero => exact Nat.le_refl 0
  | succ n ih =>
    unfold shoL
    split <;> omega
theorem sho_eq {k : Nat} {x : Int32} (hk : tn (J (m + 1) (66 + 15 * k)) ≤ 9) : M_shorterThan m k x J = nI (shoL (fun e => J (m + 1) (66 + 15 * k + (1 + e))) x (tn (J (m + 1) (66 + 15 * k)))) := by
  have L : ∀ (n e : Nat), e ≤ tn (J (m + 1) (66 + 15 * k)) → tn (J (m + 1) (66 + 15 * k)) - e < n → M_shorterThan_L5 m k x n J (shoL (fun e => J (m + 1) (66 + 15 * k + (1 + e))) x e) e = nI (shoL (fun e => J (m + 1) (66 + 15 * k + (1 + e))) x (tn (J (m + 1) (66 + 15 * k)))) := by
    intro n
    induction n with
    | zero => intro e _ h; omega
    | succ n ih =>
      intro e he hn
      unfold M_shorterThan_L5
      by_cases c : tn (M_ofBarrel m k 0 J) ≤ e
      · rw [if_pos c]
        have c2 : tn (J (m + 1) (66 + 15 * k)) ≤ e := c
        rw [show e = tn (J (m + 1) (66 + 15 * k)) by omega]
      · rw [if_neg c]
        have c2 : ¬ tn (J (m + 1) (66 + 15 * k)) ≤ e := c
        have c3 := ih (e + 1) (by omega) (by omega)
        rw [← c3]
        show (if x ≤ J (m + 1) (66 + 15 * k + (1 + e)) then _ else _) = M_shorterThan_L5 m k x n J (if J (m + 1) (66 + 15 * k + (1 + e)) < x then shoL (fun e => J (m + 1) (66 + 15 * k + (1 + e))) x e + 1 else shoL (fun e => J (m + 1) (66 + 15 * k + (1 + e))) x e) (e + 1)
        by_cases d : x ≤ J (m + 1) (66 + 15 * k + (1 + e))
        · rw [if_pos d, if_neg (fun z => by rw [Int32.le_iff_toInt_le] at d; rw [Int32.lt_iff_toInt_lt] at z; omega)]
        · rw [if_neg d, if_pos (i_lt d)]
  exact L 10 0 (Nat.zero_le _) (by omega)
theorem nI_sb {x y : Nat} (h : y ≤ x) : nI x - nI y = nI (x - y) := by
  have e : nI (x - y) + nI y = nI x := by rw [nI_add]; congr 1; omega
  rw [← e, Int32.add_sub_cancel]
theorem val_eq {i k : Nat} (h : rl a I (J (m + 1))) (hv : md_V (J (m + 1))) (hi : i < tn (J (m + 1) 6)) (hk : k < tn (J (m + 1) 7)) : Y_valueOf (a + 5 + i) (a + 11 + 2 * k) I = M_worthTo m i k J := by
  have he := hv.2.2.2.2.2.2.2.2.2 k hk
  have hb := h.2.2.2.2.2.2 k hk
  have hy := h.2.2.2.2.1 i hi
  obtain ⟨⟨r1, r2, r3, r4⟩, -⟩ := hb
  have r1 : I (a + 11 + 2 * k) 1 = J (m + 1) (66 + 15 * k) := r1
  have r2 : I (a + 11 + 2 * k) 2 = M_totalOf m k J := r2.trans (tot_eq (m := m) he.2.2).symm
  have r3 : I (a + 11 + 2 * k) 3 = M_greatestOf m k J := r3.trans (gre_eq (m := m) he.2.2).symm
  have r4 : I (a + 11 + 2 * k) 4 = M_ofBarrel m k 0 J - M_shorterThan m k (nI 60) J := by
    rw [sho_eq he.2.2, r4]
    show _ = J (m + 1) (66 + 15 * k) - _
    have e := sho_lon (fun e => J (m + 1) (66 + 15 * k + (1 + e))) (tn (J (m + 1) (66 + 15 * k)))
    have e1 := nI_tn he.1
    generalize shoL (fun e => J (m + 1) (66 + 15 * k + (1 + e))) (nI 60) (tn (J (m + 1) (66 + 15 * k))) = u at e ⊢
    have e2 : lonL (fun e => J (m + 1) (66 + 15 * k + (1 + e))) (tn (J (m + 1) (66 + 15 * k))) = tn (J (m + 1) (66 + 15 * k)) - u := by omega
    show nI (lonL (fun e => J (m + 1) (66 + 15 * k + (1 + e))) (tn (J (m + 1) (66 + 15 * k)))) = _
    rw [e2, ← nI_sb (by omega), e1]
  unfold Y_valueOf M_worthTo
  rw [hy 1 (by decide), hy 2 (by decide), r1, r2, r3, r4]
  rfl
/-- the buyer who is asked i-th -/
def askd (f : Nat → Int32) (i : Nat) : Nat := ((if f 10 = -1 then 0 else tn (f 10) + 1) + i) % tn (f 6)
theorem askd_M {f : Nat → Int32} (hv : md_V f) {i : Nat} (hi : i < 10) : f 10 + nI (i + 1) - (f 10 + nI (i + 1)) / f 6 * f 6 = nI (askd f i) := by
  have h6 := hv.2.1
  have e6 := (nI_tn h6.1).symm
  have key : ∀ j : Nat, j < 2 ^ 20 → f 10 + nI (i + 1) = nI j → f 10 + nI (i + 1) - (f 10 + nI (i + 1)) / f 6 * f 6 = nI (j % tn (f 6)) := by
    intro j hj e
    rw [e]
    generalize tn (f 6) = n at e6 h6 ⊢
    rw [e6, pk_rem (by omega) (by omega) (by omega)]
  unfold askd
  rcases mV10 hv with q | q
  · rw [if_pos q]
    refine (key i (by omega) (by rw [q, m1_add (by omega)]; rfl)).trans ?_
    rw [Nat.zero_add]
  · rw [if_neg (nm1 q.1)]
    refine (key (tn (f 10) + (i + 1)) (by omega) (by rw [← nI_add (tn (f 10)), nI_tn q.1])).trans ?_
    congr 2
    omega
theorem askd_lt {f : Nat → Int32} (hv : md_V f) (i : Nat) : askd f i < tn (f 6) := Nat.mod_lt _ (by have := hv.2.1; omega)
/-- who was asked before the i-th, as the class keeps it -/
def asky (f : Nat → Int32) (i : Nat) : Int32 := match i with
  | 0 => f 10
  | i + 1 => nI (askd f i)
theorem asky_S {f : Nat → Int32} (hv : md_V f) (i : Nat) : (nI (tn (f 6)) ≤ asky f i + nI 1 ∧ askd f i = 0) ∨ (¬ nI (tn (f 6)) ≤ asky f i + nI 1 ∧ asky f i + nI 1 = nI (askd f i)) := by
  have h6 := hv.2.1
  have key : ∀ j : Nat, j < 2 ^ 20 → j < tn (f 6) → asky f i + nI 1 = nI (j + 1) → askd f i = (j + 1) % tn (f 6) → (nI (tn (f 6)) ≤ asky f i + nI 1 ∧ askd f i = 0) ∨ (¬ nI (tn (f 6)) ≤ asky f i + nI 1 ∧ asky f i + nI 1 = nI (askd f i)) := by
    intro j hj hjn e1 e2
    rw [e1, e2]
    by_cases c : j + 1 = tn (f 6)
    · refine Or.inl ⟨?_, by rw [c, Nat.mod_self]⟩
      rw [c]
      exact Int32.le_refl _
    · refine Or.inr ⟨fun z => ?_, by rw [Nat.mod_eq_of_lt (by omega)]⟩
      have := (nI_leI (by omega) (by omega)).mp z
      omega
  cases i with
  | zero =>
    rcases mV10 hv with q | q
    · refine Or.inr ⟨?_, ?_⟩
      · show ¬ _ ≤ f 10 + nI 1
        rw [q]
        intro z
        have := (nI_leI (b := 0) (by omega) (by decide)).mp z
        omega
      · show f 10 + nI 1 = _
        unfold askd
        rw [if_pos q, q, Nat.zero_add, Nat.zero_mod]
        decide
    · refine key (tn (f 10)) (by omega) q.2.1 ?_ ?_
      · show f 10 + nI 1 = _
        rw [← nI_add, nI_tn q.1]
      · unfold askd
        rw [if_neg (nm1 q.1)]
  | succ i =>
    refine key (askd f i) (by have := askd_lt hv i; omega) (askd_lt hv i) ?_ ?_
    · show nI (askd f i) + nI 1 = _
      rw [nI_add]
    · unfold askd
      rw [← Nat.add_assoc, Nat.add_mod]
      conv => rhs; rw [Nat.add_mod]
      rw [Nat.mod_mod]
theorem who_eq {B : Nat} (h : rl a I (J (m + 1))) (hv : md_V (J (m + 1))) (hi : iv B (J (m + 1))) : K_whoNods a I = M_thinker m J := by
  have h6 := hv.2.1
  have e8 := h.2.2.2.1.1
  have n6 := h.2.2.1.1
  unfold K_whoNods M_thinker
  rw [e8]
  rcases mV8 hv with q8 | q8
  · rw [if_pos q8, if_neg (by rw [q8]; decide)]
  · rw [if_neg (nm1 q8.1), if_pos q8.1, h.2.2.2.1.2.1]
    have hnp := np_eq h hv q8.1
    have L : ∀ (n n' i : Nat), i ≤ tn (J (m + 1) 6) → tn (J (m + 1) 6) - i < n → tn (J (m + 1) 6) - i < n' → K_whoNods_L33 a n I (asky (J (m + 1)) i) i = M_thinker_L14 m n' J (i + 1) := by
      intro n
      induction n with
      | zero => intro n' i _ h; omega
      | succ n ih =>
        intro n' i hin hn hn'
        obtain ⟨n', rfl⟩ : ∃ k, n' = k + 1 := ⟨n' - 1, by omega⟩
        unfold K_whoNods_L33 M_thinker_L14
        rw [n6]
        by_cases c : tn (J (m + 1) 6) ≤ i
        · rw [if_pos c, if_pos (show tn (J (m + 1) 6) < i + 1 by omega)]
        · rw [if_neg c, if_neg (show ¬ tn (J (m + 1) 6) < i + 1 by omega), askd_M hv (by omega), tn_nI (by have := askd_lt hv i; omega), e8, hnp]
          have hl := askd_lt hv i
          have hih := ih n' (i + 1) (by omega) (by omega) (by omega)
          have hih : K_whoNods_L33 a n I (nI (askd (J (m + 1)) i)) (i + 1) = M_thinker_L14 m n' J (i + 1 + 1) := hih
          have hre := ref_eq h hv hi hl
          have hva := val_eq h hv hl q8.2
          rcases asky_S hv i with ⟨g1, g2⟩ | ⟨g1, g2⟩
          · rw [if_pos g1]
            rw [g2] at hih hre hva ⊢
            rw [hih, hre, hva]
          · rw [if_neg g1, g2, hih, hre, tn_nI (by omega), hva]
    exact L 7 8 0 (Nat.zero_le _) (by omega) (by omega)
end RLA
