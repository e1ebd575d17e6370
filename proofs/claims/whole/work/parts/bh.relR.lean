/-! the middle length, the minutes to the horn -/
section RRQ3
variable {x m B : Nat} {I J : ow_I}
def nlL (g : Nat → Int32) (y : Int32) : Nat → Nat
  | 0 => 0
  | n + 1 => if g n ≤ y then nlL g y n + 1 else nlL g y n
theorem nl_sho {g : Nat → Int32} {y : Nat} (hy : y ≤ 150) : ∀ n, (∀ e, e < n → ∃ z : Nat, g e = nI z ∧ z ≤ 150) → nlL g (nI y) n = shoL g (nI y + nI 1) n := by
  intro n
  induction n with
  | zero => intro _; rfl
  | succ n ih =>
    intro h
    obtain ⟨z, ez, hz⟩ := h n (by omega)
    unfold nlL shoL
    rw [ih (fun e he => h e (by omega)), ez, nI_add]
    by_cases c : z ≤ y
    · rw [if_pos ((nI_leI (by omega) (by omega)).mpr c), if_pos (nI_lt (by omega) (by omega))]
    · rw [if_neg (fun q => c ((nI_leI (by omega) (by omega)).mp q)), if_neg (fun q => by have := (nI_ltI (by omega) (by omega)).mp q; omega)]
theorem L18_eq {b i T : Nat} {k : Int32} {g : Nat → Int32} (hT : tn (I b 1) = T) (hg : ∀ e, e < T → I (b + 1) e = g e) (hi : i < T) : ∀ (n o : Nat), o ≤ T → T - o < n → B_lengthAtRank_L18 b k n I i (shoL g (g i) o) (nlL g (g i) o) o = (shoL g (g i) T, nlL g (g i) T) := by
  intro n
  induction n with
  | zero => intro o _ h; omega
  | succ n ih =>
    intro o ho hn
    unfold B_lengthAtRank_L18
    rw [hT]
    by_cases c : T ≤ o
    · rw [if_pos c, show o = T by omega]
    · rw [if_neg c, hg i hi, hg o (by omega)]
      have h := ih (o + 1) (by omega) (by omega)
      rw [← h]
      have e1 : shoL g (g i) (o + 1) = if g o < g i then shoL g (g i) o + 1 else shoL g (g i) o := rfl
      have e2 : nlL g (g i) (o + 1) = if g o ≤ g i then nlL g (g i) o + 1 else nlL g (g i) o := rfl
      rw [e1, e2]
      by_cases d : g i ≤ g o
      · have dn : ¬ g o < g i := fun z => by rw [Int32.le_iff_toInt_le] at d; rw [Int32.lt_iff_toInt_lt] at z; omega
        rw [if_pos d, if_neg dn]
        by_cases e : g i < g o
        · have en : ¬ g o ≤ g i := fun z => by rw [Int32.lt_iff_toInt_lt] at e; rw [Int32.le_iff_toInt_le] at z; omega
          rw [if_pos e, if_neg en]
          rfl
        · rw [if_neg e, if_pos (i_nlt e)]
          rfl
      · have d2 : g o < g i := i_lt d
        have d3 : ¬ g i < g o := fun z => by rw [Int32.lt_iff_toInt_lt] at d2 z; omega
        have d4 : g o ≤ g i := by rw [Int32.le_iff_toInt_le]; rw [Int32.lt_iff_toInt_lt] at d2; omega
        rw [if_neg d, if_pos d2, if_neg d3, if_pos d4]
theorem q_middleLength {b : Int32} (h : RR x m B I J) : an x m B [3] (A_middleLength x b I).1 (A_middleLength x b I).2 (M_middleLength m b J).1 I (M_middleLength m b J).2 := by
  rcases bar_or (b := b) h with ⟨-, q2, q3, -, q5, q6⟩ | ⟨-, q2, q3⟩
  · simp only [A_middleLength, M_middleLength, lt_eq, q2, q3, if_true]
    rw [if_neg (by decide)]
    refine ⟨RR_18 h, ow_u_s _ _ _ _, fun _ => ?_⟩
    have hs := st18 h
    have e7 : ow_u J m 18 (nI 0) (m + 1) = J (m + 1) := e18 (by omega)
    rw [← e7] at q6
    generalize ow_u J m 18 (nI 0) = J1 at hs q6 ⊢
    have he := hs.2.1.2.2.2.2.2.2.2.2.2 (tn b) q6
    have hb := hs.1.2.2.2.2.2.2 (tn b) q6
    have hl := (hs.2.2.2.2.1 (tn b) q6).2.2.2
    have e1 : I (x + 1 + 11 + 2 * tn b) 1 = J1 (m + 1) (66 + 15 * tn b) := hb.1.1
    have hle : ∀ e, e < tn (J1 (m + 1) (66 + 15 * tn b)) → I (x + 1 + 11 + 2 * tn b + 1) e = (fun e => J1 (m + 1) (66 + 15 * tn b + (1 + e))) e := fun e h => hb.2.1 e h
    have hn : ∀ e, e < tn (J1 (m + 1) (66 + 15 * tn b)) → ∃ z : Nat, (fun e => J1 (m + 1) (66 + 15 * tn b + (1 + e))) e = nI z ∧ z ≤ 150 := fun e h => by
      obtain ⟨z, ez, -, hz⟩ := hl e h
      exact ⟨z, ez, hz⟩
    have hsho : ∀ y : Int32, M_shorterThan m (tn b) y J1 = nI (shoL (fun e => J1 (m + 1) (66 + 15 * tn b + (1 + e))) y (tn (J1 (m + 1) (66 + 15 * tn b)))) := fun y => sho_eq he.2.2
    generalize hT : tn (J1 (m + 1) (66 + 15 * tn b)) = T at *
    generalize hG : (fun e => J1 (m + 1) (66 + 15 * tn b + (1 + e))) = g at *
    have hT1 : tn (I (x + 1 + 11 + 2 * tn b) 1) = T := by rw [e1, hT]
    have ek : (I (x + 1 + 11 + 2 * tn b) 1 - nI 1) / nI 2 = nI ((T - 1) / 2) := by
      rw [e1, ← nI_tn he.1, hT, nI_sb he.2.1, pk_div (by omega) (by decide) (by decide)]
    have L : ∀ (n i : Nat), i ≤ T → T - i < n → B_lengthAtRank_L2 (x + 1 + 11 + 2 * tn b) (nI ((T - 1) / 2)) n I i = M_middleOf_L13 m (tn b) n J1 i := by
      intro n
      induction n with
      | zero => intro i _ h; omega
      | succ n ih =>
        intro i hi hn2
        unfold B_lengthAtRank_L2 M_middleOf_L13
        have eT : tn (M_ofBarrel m (tn b) 0 J1) = T := hT
        rw [hT1, eT]
        by_cases c : T ≤ i
        · rw [if_pos c, if_pos c]
        · have el : M_lengthOf m (tn b) i J1 = g i := by rw [← hG]; rfl
          obtain ⟨z, ez, hz⟩ := hn i (by omega)
          have h18 := L18_eq (k := nI ((T - 1) / 2)) hT1 hle (show i < T by omega) 10 0 (by omega) (by omega)
          rw [if_neg c, if_neg c, lt_eq, el, hsho, hsho, ih (i + 1) (by omega) (by omega), show B_lengthAtRank_L18 (x + 1 + 11 + 2 * tn b) (nI ((T - 1) / 2)) 10 I i 0 0 0 = _ from h18, hle i (by omega)]
          have en : nlL g (g i) T = shoL g (g i + nI 1) T := by
            rw [ez]
            exact nl_sho hz T hn
          rw [en]
    rw [ek]
    exact L 10 0 (by omega) (by omega)
  · simp only [A_middleLength, M_middleLength, lt_eq, q2, q3, if_true]
    rw [if_neg (by decide)]
    exact ⟨RR_18 (RR_18 h), ow_u_s _ _ _ _, fun z => absurd z (by decide)⟩
theorem nI_neg_le {l r : Nat} (h : l ≤ r) (hr : r ≤ 1000) : nI l - nI r ≤ 0 := by
  have e : nI l - nI r = -nI (r - l) := by
    rw [← nI_sb h, Int32.neg_sub]
  rw [e, Int32.le_iff_toInt_le, Int32.toInt_neg]
  have : (nI (r - l)).toInt = ((r - l : Nat) : Int) := Int32.toInt_ofNat_of_lt (by omega)
  rw [this]
  show _ ≤ (0 : Int)
  unfold Int.bmod
  dsimp only
  split <;> omega
theorem q_minutesToHorn (h : RR x m B I J) (hB : B < 2 ^ 30) : A_minutesToHorn x I = (M_minutesToHorn m J).1 ∧ RR x m B I (M_minutesToHorn m J).2 := by
  have h1 := RR_18 (y := nI 0) h
  have hs := h1.2.1
  simp only [A_minutesToHorn, M_minutesToHorn, lt_eq]
  generalize ow_u J m 18 (nI 0) = J1 at h1 hs ⊢
  obtain ⟨⟨p, l, e0, p5, p60, e1, l1, lp⟩, -, -, -, n, e5, hn⟩ := hs.2.2.1
  have t0 : I (x + 1 + 1) 0 = nI p := hs.1.1.1.trans e0
  have t1 : I (x + 1 + 1) 1 = nI l := hs.1.1.2.1.trans e1
  have t2 : I (x + 1 + 1) 2 = nI n := hs.1.1.2.2.trans e5
  have hm := Nat.mod_lt n (show 0 < p by omega)
  have bl : ∀ i, 1 ≤ i → i ≤ 100 → M_blowsIn m (J1 (m + 1) 5 + nI i) J1 = decide ((n + i) % p = l) := fun i g1 g2 => by
    rw [e5, nI_add]
    exact blow_N e0 e1 ⟨p5, p60⟩ ⟨l1, lp⟩ ⟨by omega, by omega⟩
  have L : ∀ (f i w : Nat), 1 ≤ i → i ≤ w → (w ≤ p + 1) → p + 1 - i < f → (∀ j, i ≤ j → j < w → ¬ (n + j) % p = l) → (w ≤ p → (n + w) % p = l) → M_minutesToHorn_L7 m f J1 i = (if w ≤ p then nI w else -1, J1) := by
    intro f
    induction f with
    | zero => intro i w _ _ _ h; omega
    | succ f ih =>
      intro i w g1 g2 g3 g4 g5 g6
      unfold M_minutesToHorn_L7
      rw [e0, tn_nI (by omega)]
      by_cases c : p < i
      · rw [if_pos c, if_neg (show ¬ w ≤ p by omega)]
      · rw [if_neg c, bl i g1 (by omega)]
        by_cases d : i = w
        · rw [d, decide_eq_true (g6 (by omega)), if_pos rfl, if_pos (show w ≤ p by omega)]
        · rw [decide_eq_false (g5 i (Nat.le_refl _) (by omega)), if_neg (by decide)]
          exact ih (i + 1) w (by omega) (by omega) g3 (by omega) (fun j q1 q2 => g5 j (by omega) q2) g6
  have modk : ∀ j, j ≤ p → (n + j) % p = if n % p + j < p then n % p + j else n % p + j - p := by
    intro j hj
    have hd := Nat.div_add_mod n p
    by_cases c : n % p + j < p
    · rw [if_pos c]
      have e : n + j = (n % p + j) + p * (n / p) := by omega
      rw [e, Nat.add_mul_mod_self_left, Nat.mod_eq_of_lt c]
    · rw [if_neg c]
      have e : n + j = (n % p + j - p) + p * (n / p + 1) := by rw [Nat.mul_add]; omega
      rw [e, Nat.add_mul_mod_self_left]
      by_cases d : n % p + j - p < p
      · rw [Nat.mod_eq_of_lt d]
      · omega
  unfold T_untilHorn
  rw [t0, t1, t2, if_neg (fun z => by have := (nI_leI (b := 0) (by omega) (by decide)).mp z; omega), pk_rem (by omega) (by omega) (by omega)]
  by_cases c : l < p
  · rw [if_pos (nI_lt c (by omega))]
    by_cases d : n % p < l
    · have hw := L 61 1 (l - n % p) (by omega) (by omega) (by omega) (by omega) (fun j q1 q2 => by rw [modk j (by omega), if_pos (by omega)]; omega) (fun q => by rw [modk _ q, if_pos (by omega)]; omega)
      rw [hw, if_pos (show l - n % p ≤ p by omega), nI_sb (by omega), if_neg (fun z => by have := (nI_leI (b := 0) (by omega) (by decide)).mp z; omega)]
      exact ⟨rfl, h1⟩
    · have hw := L 61 1 (l + p - n % p) (by omega) (by omega) (by omega) (by omega) (fun j q1 q2 => by
          rw [modk j (by omega)]
          by_cases e : n % p + j < p
          · rw [if_pos e]; omega
          · rw [if_neg e]; omega) (fun q => by rw [modk _ q, if_neg (by omega)]; omega)
      have e : nI l - nI (n % p) + nI p = nI (l + p - n % p) := by
        rw [← nI_sb (by omega), ← nI_add, Int32.sub_eq_add_neg, Int32.sub_eq_add_neg, Int32.add_assoc, Int32.add_assoc, Int32.add_comm (nI p)]
      rw [hw, if_pos (show l + p - n % p ≤ p by omega), if_pos (nI_neg_le (by omega) (by omega)), e]
      exact ⟨rfl, h1⟩
  · have hlp : l = p := by omega
    rw [if_neg (fun z => c ((nI_ltI (by omega) (by omega)).mp z))]
    have hw := L 61 1 (p + 1) (by omega) (by omega) (by omega) (by omega) (fun j q1 q2 => by have := Nat.mod_lt (n + j) (show 0 < p by omega); omega) (fun q => by omega)
    rw [hw, if_neg (by omega)]
    exact ⟨rfl, h1⟩
end RRQ3
