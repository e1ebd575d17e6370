section
theorem rdPB {m b w : Nat} {x : Int32} {I : ow_I} {a j : Nat} (h : j < 66) : M_putBarrel m b w x I a j = I a j := ow_u_k _ _ _ _ (by omega) _
theorem rdPu {m b w : Nat} {x : Int32} {I : ow_I} {a j : Nat} (h : j < 36) : M_put m b w x I a j = I a j := ow_u_k _ _ _ _ (by omega) _
theorem n64_of {r : UInt64} (h : Jvm.FP.Core.dIsNaN r = false) : vf_n64 r := by
  unfold vf_n64
  have h1 : ¬ 9218868437227405312 < r.toNat % 2 ^ 63 := fun h2 => by
    have := (Jvm.FP.Core.isNaN_bits r).mpr h2
    rw [h] at this
    exact absurd this (by decide)
  rw [UInt64.le_iff_toNat_le, UInt64.toNat_and, show (0x7fffffffffffffff : UInt64).toNat = 2 ^ 63 - 1 by decide, show (0x7ff0000000000000 : UInt64).toNat = 9218868437227405312 by decide, Nat.and_two_pow_sub_one_eq_mod]
  omega
theorem n32_of {r : UInt32} (h : Jvm.FP.Core.fIsNaN r = false) : vf_n32 r := by
  unfold vf_n32
  have h1 : ¬ 2139095040 < r.toNat % 2 ^ 31 := fun h2 => by
    have := (Jvm.FP.Core.isNaN_bits32 r).mpr h2
    rw [h] at this
    exact absurd this (by decide)
  rw [UInt32.le_iff_toNat_le, UInt32.toNat_and, show (0x7fffffff : UInt32).toNat = 2 ^ 31 - 1 by decide, show (0x7f800000 : UInt32).toNat = 2139095040 by decide, Nat.and_two_pow_sub_one_eq_mod]
  omega
theorem fp_dd {x y : Int32} (h : ¬ y = 0) : vf_n64 (FP.ddiv (FP.i2d x) (FP.i2d y)) :=
  n64_of (Jvm.FP.Core.ddiv_out (a := Jvm.FP.Core.i2d x) (b := Jvm.FP.Core.i2d y) (Jvm.FP.Core.i2d_fin x).notNaN (Jvm.FP.Core.i2d_fin y) (fun hz => Jvm.FP.Core.i2d_ne_zero h ((Jvm.FP.Core.zero_bits2 _).mp hz)))
theorem fp_ff {x y : Int32} (h : ¬ y = 0) : vf_n32 (FP.fdiv (FP.i2f x) (FP.i2f y)) :=
  n32_of (Jvm.FP.Core.fdiv_out (a := Jvm.FP.Core.i2f x) (b := Jvm.FP.Core.i2f y) (Jvm.FP.Core.i2f_fin x).notNaN (Jvm.FP.Core.i2f_fin y) (fun hz => Jvm.FP.Core.i2f_ne_zero h ((Jvm.FP.Core.zero_bits232 _).mp hz)))
theorem fp_i2d_div100 (x : Int32) : vf_n64 (FP.ddiv (FP.i2d x) (4636737291354636288 : UInt64)) := by
  rw [show (4636737291354636288 : UInt64) = FP.i2d 100 by decide +kernel]
  exact fp_dd (by decide)
theorem fp_i2d_div10 (x : Int32) : vf_n64 (FP.ddiv (FP.i2d x) (4621819117588971520 : UInt64)) := by
  rw [show (4621819117588971520 : UInt64) = FP.i2d 10 by decide +kernel]
  exact fp_dd (by decide)
theorem fp_i2d_div5 (x : Int32) : vf_n64 (FP.ddiv (FP.i2d x) (4617315517961601024 : UInt64)) := by
  rw [show (4617315517961601024 : UInt64) = FP.i2d 5 by decide +kernel]
  exact fp_dd (by decide)
def M_addBuyer (m : Nat) (p : Int32) (s : Int32) (f : Int32) (I : ow_I) : ow_I :=
  lt (M_put m (tn (I (m + 1) 6)) 0 p I) (fun (I1 : ow_I) => lt (M_put m (tn (I (m + 1) 6)) 1 s I1) (fun (I2 : ow_I) => lt (M_put m (tn (I (m + 1) 6)) 2 f I2) (fun (I3 : ow_I) => lt (M_put m (tn (I (m + 1) 6)) 3 (nI 0) I3) (fun (I4 : ow_I) => lt (M_put m (tn (I (m + 1) 6)) 4 (nI 0) I4) (fun (I5 : ow_I) => lt (ow_u I5 (m + 1) 15 (I5 (m + 1) 15 + p)) (fun (I6 : ow_I) => lt (ow_u I6 (m + 1) 6 (I6 (m + 1) 6 + (nI 1))) (fun (I7 : ow_I) => I7)))))))
def M_enqueue (m : Nat) (b : Nat) (I : ow_I) : ow_I :=
  lt (M_putBarrel m b 12 (nI 0) I) (fun (I1 : ow_I) => lt (ow_u I1 (m + 1) (16 + (tn (I (m + 1) 12))) (nI b)) (fun (I2 : ow_I) => lt (ow_u I2 (m + 1) 12 (I2 (m + 1) 12 + (nI 1))) (fun (I3 : ow_I) => I3)))
def M_newBarrel (m : Nat) (r : Int32) (I : ow_I) : Nat × ow_I :=
  lt (M_putBarrel m (tn (I (m + 1) 7)) 0 (nI 0) I) (fun (I1 : ow_I) => lt (M_putBarrel m (tn (I (m + 1) 7)) 10 r I1) (fun (I2 : ow_I) => lt (M_putBarrel m (tn (I (m + 1) 7)) 11 (nI 0) I2) (fun (I3 : ow_I) => lt (M_putBarrel m (tn (I (m + 1) 7)) 13 ((-1)) I3) (fun (I4 : ow_I) => lt (M_putBarrel m (tn (I (m + 1) 7)) 14 ((-1)) I4) (fun (I5 : ow_I) => lt (ow_u I5 (m + 1) 7 (I5 (m + 1) 7 + (nI 1))) (fun (I6 : ow_I) => lt (M_enqueue m (tn (I (m + 1) 7)) I6) (fun (I7 : ow_I) => (tn (I (m + 1) 7), I7))))))))
def M_addEel (m : Nat) (b : Nat) (x : Int32) (I : ow_I) : ow_I :=
  lt (M_putBarrel m b (1 + (tn (M_ofBarrel m b 0 I))) x I) (fun (I1 : ow_I) => lt (M_putBarrel m b 0 (nI (tn (M_ofBarrel m b 0 I) + 1)) I1) (fun (I2 : ow_I) => I2))
def M_totalOf_L4 (m : Nat) (b : Nat) : Nat → ow_I → Int32 → Nat → Int32
  | 0, I, _, _ => default
  | n + 1, I, s, e => if tn (M_ofBarrel m b 0 I) ≤ e then s else M_totalOf_L4 m b n I (s + (M_lengthOf m b e I)) (e + 1)
def M_totalOf (m : Nat) (b : Nat) (I : ow_I) : Int32 :=
  M_totalOf_L4 m b 10 I (nI 0) 0
def M_greatestOf_L4 (m : Nat) (b : Nat) : Nat → ow_I → Int32 → Nat → Int32
  | 0, I, _, _ => default
  | n + 1, I, s, e => if tn (M_ofBarrel m b 0 I) ≤ e then s else if M_lengthOf m b e I ≤ s then M_greatestOf_L4 m b n I s (e + 1) else M_greatestOf_L4 m b n I (M_lengthOf m b e I) (e + 1)
def M_greatestOf (m : Nat) (b : Nat) (I : ow_I) : Int32 :=
  M_greatestOf_L4 m b 10 I (nI 0) 0
def M_shorterThan_L5 (m : Nat) (b : Nat) (x : Int32) : Nat → ow_I → Nat → Nat → Int32
  | 0, I, _, _ => default
  | n + 1, I, c, e => if tn (M_ofBarrel m b 0 I) ≤ e then nI c else if x ≤ M_lengthOf m b e I then M_shorterThan_L5 m b x n I c (e + 1) else M_shorterThan_L5 m b x n I (c + 1) (e + 1)
def M_shorterThan (m : Nat) (b : Nat) (x : Int32) (I : ow_I) : Int32 :=
  M_shorterThan_L5 m b x 10 I 0 0
def M_middleOf_L13 (m : Nat) (b : Nat) : Nat → ow_I → Nat → Int32
  | 0, I, _ => default
  | n + 1, I, e => if tn (M_ofBarrel m b 0 I) ≤ e then (-1) else if nI (((tn (M_ofBarrel m b 0 I)) - 1) / 2) < M_shorterThan m b (M_lengthOf m b e I) I then M_middleOf_L13 m b n I (e + 1) else if M_shorterThan m b (M_lengthOf m b e I + (nI 1)) I ≤ nI (((tn (M_ofBarrel m b 0 I)) - 1) / 2) then M_middleOf_L13 m b n I (e + 1) else M_lengthOf m b e I
def M_middleOf (m : Nat) (b : Nat) (I : ow_I) : Int32 :=
  M_middleOf_L13 m b 10 I 0
def M_worthTo (m : Nat) (b : Nat) (k : Nat) (I : ow_I) : UInt64 :=
  if M_of m b 1 I = nI (1 + 0) then FP.ddiv (FP.i2d ((M_of m b 2 I) * (M_totalOf m k I))) ((4636737291354636288 : UInt64)) else if M_of m b 1 I = nI (1 + 1) then FP.ddiv (FP.i2d ((M_of m b 2 I) * (M_ofBarrel m k 0 I))) ((4621819117588971520 : UInt64)) else if M_of m b 1 I = nI (1 + 2) then FP.ddiv (FP.i2d (((M_of m b 2 I) * (M_greatestOf m k I)) * (M_ofBarrel m k 0 I))) ((4636737291354636288 : UInt64)) else if M_of m b 1 I = nI (1 + 3) then FP.ddiv (FP.i2d ((M_of m b 2 I) * (M_ofBarrel m k 0 I - (M_shorterThan m k (nI 60) I)))) ((4617315517961601024 : UInt64)) else FP.dconst0
def M_isOpenNow (m : Nat) (I : ow_I) : Bool :=
  M_isOpenIn m (I (m + 1) 5) I
def M_blowsIn (m : Nat) (n : Int32) (I : ow_I) : Bool :=
  if M_isOpenIn m n I then false else if M_isOpenIn m (n - (nI 1)) I then true else false
def M_bidNext (m : Nat) (I : ow_I) : Int32 :=
  if 0 ≤ I (m + 1) 10 then I (m + 1) 9 + (I (m + 1) 3) else M_ofBarrel m (tn (I (m + 1) 8)) 10 I
def M_costOfPrice (m : Nat) (p : Int32) (I : ow_I) : Int32 :=
  p + ((p * (I (m + 1) 4)) / (nI 100))
def M_reasonAgainst (m : Nat) (b : Nat) (I : ow_I) : Int32 :=
  if M_isOpenNow m I then if 0 ≤ I (m + 1) 8 then if I (m + 1) 10 = nI b then nI 3 else if M_costOfPrice m (M_bidNext m I) I ≤ M_of m b 0 I then nI 0 else nI 4 else nI 2 else nI 1
def M_nodNow (m : Nat) (b : Nat) (I : ow_I) : Int32 × ow_I :=
  lt (ow_u I (m + 1) 9 (M_bidNext m I)) (fun (I1 : ow_I) => lt (ow_u I1 (m + 1) 10 (nI b)) (fun (I2 : ow_I) => lt (ow_u I2 (m + 1) 11 (nI 0)) (fun (I3 : ow_I) => lt (M_put m b 4 (M_of m b 4 I3 + (nI 1)) I3) (fun (I4 : ow_I) => (I4 (m + 1) 9, I4)))))
end
section
/-! what a block of the reference keeps: period, counts, the open barrel, the leader, the queue, the eels -/
def md_V (A : Nat → Int32) : Prop :=
  ¬ A 0 = 0 ∧ (0 ≤ A 6 ∧ 1 ≤ tn (A 6) ∧ tn (A 6) ≤ 6) ∧ (0 ≤ A 7 ∧ tn (A 7) ≤ 20) ∧
  (A 8 = -1 ∨ (0 ≤ A 8 ∧ tn (A 8) < tn (A 7) ∧ ¬ A (66 + 15 * tn (A 8) + 12) = 0)) ∧
  (A 10 = -1 ∨ (0 ≤ A 10 ∧ tn (A 10) < tn (A 6) ∧ 0 ≤ A 8)) ∧
  (0 ≤ A 12 ∧ tn (A 12) ≤ 20) ∧
  (∀ i, i < tn (A 12) → 0 ≤ A (16 + i) ∧ tn (A (16 + i)) < tn (A 7) ∧ A (66 + 15 * tn (A (16 + i)) + 12) = 0) ∧
  (∀ i j, i < tn (A 12) → j < tn (A 12) → A (16 + i) = A (16 + j) → i = j) ∧
  (∀ k, k < tn (A 7) → A (66 + 15 * k + 12) = 0 → ∃ p, p < tn (A 12) ∧ A (16 + p) = nI k) ∧
  (∀ k, k < tn (A 7) → 0 ≤ A (66 + 15 * k) ∧ 1 ≤ tn (A (66 + 15 * k)) ∧ tn (A (66 + 15 * k)) ≤ 9)
theorem i_nlt {x y : Int32} (h : ¬ x < y) : y ≤ x := by rw [Int32.lt_iff_toInt_lt] at h; rw [Int32.le_iff_toInt_le]; omega
theorem i_lt {x y : Int32} (h : ¬ y ≤ x) : x < y := by rw [Int32.le_iff_toInt_le] at h; rw [Int32.lt_iff_toInt_lt]; omega
theorem i_m1 : ¬ (0 : Int32) ≤ -1 := by decide
theorem nI_ge0 {n : Nat} (h : n < 2 ^ 31) : 0 ≤ nI n := nI_pos' h
theorem m1_add {i : Nat} (h : 1 ≤ i) : (-1 : Int32) + nI i = nI (i - 1) := by
  obtain ⟨j, rfl⟩ : ∃ j, i = j + 1 := ⟨i - 1, by omega⟩
  rw [Int32.add_comm, pk_m1]
  rfl
theorem md_th {A : Nat → Int32} (hv : md_V A) {i : Nat} (h1 : 1 ≤ i) (h2 : i ≤ tn (A 6)) : 0 ≤ A 10 + nI i - (A 10 + nI i) / A 6 * A 6 ∧ tn (A 10 + nI i - (A 10 + nI i) / A 6 * A 6) < tn (A 6) := by
  obtain ⟨-, ⟨g1, g2, g3⟩, -, -, g5, -⟩ := hv
  have e6 := (nI_tn g1).symm
  have key : ∀ j : Nat, j < 2 ^ 20 → A 10 + nI i = nI j → 0 ≤ A 10 + nI i - (A 10 + nI i) / A 6 * A 6 ∧ tn (A 10 + nI i - (A 10 + nI i) / A 6 * A 6) < tn (A 6) := by
    intro j hj e
    rw [e]
    generalize tn (A 6) = n at e6 g2 g3 h2 ⊢
    rw [e6, pk_rem (by omega) (by omega) (by omega)]
    have h3 := Nat.mod_lt j (show 0 < n by omega)
    exact ⟨nI_ge0 (by omega), by rw [tn_nI (by omega)]; exact h3⟩
  rcases g5 with g5 | ⟨g5, g6, -⟩
  · exact key (i - 1) (by omega) (by rw [g5, m1_add h1])
  · exact key (tn (A 10) + i) (by omega) (by rw [← nI_add, nI_tn g5])
theorem mdV_10 {A : Nat → Int32} (hv : md_V A) (h : 0 ≤ A 10) : tn (A 10) < 6 := by
  have h1 := hv.2.1
  rcases hv.2.2.2.2.1 with q | q
  · rw [q] at h; exact absurd h i_m1
  · omega
theorem mdV_8 {A : Nat → Int32} (hv : md_V A) (h : 0 ≤ A 8) : tn (A 8) < 20 := by
  have h1 := hv.2.2.1
  rcases hv.2.2.2.1 with q | q
  · rw [q] at h; exact absurd h i_m1
  · omega
theorem tn_inc {x : Int32} (h : 0 ≤ x) (hb : tn x < 2 ^ 30) : 0 ≤ x + nI 1 ∧ tn (x + nI 1) = tn x + 1 := by
  have e := (nI_tn h).symm
  generalize tn x = n at e hb ⊢
  subst e
  rw [nI_add]
  exact ⟨nI_ge0 (by omega), tn_nI (by omega)⟩
theorem mdV_q0 {A : Nat → Int32} (hv : md_V A) : 0 < tn (A 12) → 0 ≤ A 16 ∧ tn (A 16) < 20 := fun h => by
  have h1 := hv.2.2.2.2.2.2.1 0 h
  have h2 := hv.2.2.1
  exact ⟨h1.1, by have := h1.2.1; simp only [Nat.add_zero] at this; omega⟩
/-! what a block keeps, of its parts -/
theorem pigeon : ∀ (n q : Nat) (f : Nat → Nat), (∀ i, i < q → f i < n) → (∀ i j, i < q → j < q → f i = f j → i = j) → q ≤ n := by
  intro n
  induction n with
  | zero =>
    intro q f h _
    rcases Nat.eq_zero_or_pos q with z | z
    · omega
    · exact absurd (h 0 z) (by omega)
  | succ n ih =>
    intro q f h hj
    by_cases c : ∃ i, i < q ∧ f i = n
    · obtain ⟨p, hp, e⟩ := c
      have r := ih (q - 1) (fun j => f (if j < p then j else j + 1)) (fun i hi => by
        have h1 := h (if i < p then i else i + 1) (by split <;> omega)
        have h2 : f (if i < p then i else i + 1) ≠ n := fun z => by
          have := hj _ _ (by split <;> omega) hp (z.trans e.symm)
          split at this <;> omega
        show f (if i < p then i else i + 1) < n
        omega) (fun i j hi hj2 e2 => by
        have := hj _ _ (by split <;> omega) (by split <;> omega) e2
        split at this <;> split at this <;> omega)
      omega
    · have r := ih q f (fun i hi => by
        have h1 := h i hi
        have h2 : f i ≠ n := fun z => c ⟨i, hi, z⟩
        omega) hj
      omega
def md_VV (a0 a6 a7 a8 a10 a12 : Int32) (Q s e : Nat → Int32) : Prop :=
  ¬ a0 = 0 ∧ (0 ≤ a6 ∧ 1 ≤ tn a6 ∧ tn a6 ≤ 6) ∧ (0 ≤ a7 ∧ tn a7 ≤ 20) ∧
  (a8 = -1 ∨ (0 ≤ a8 ∧ tn a8 < tn a7 ∧ ¬ s (tn a8) = 0)) ∧
  (a10 = -1 ∨ (0 ≤ a10 ∧ tn a10 < tn a6 ∧ 0 ≤ a8)) ∧
  (0 ≤ a12 ∧ tn a12 ≤ 20) ∧
  (∀ i, i < tn a12 → 0 ≤ Q i ∧ tn (Q i) < tn a7 ∧ s (tn (Q i)) = 0) ∧
  (∀ i j, i < tn a12 → j < tn a12 → Q i = Q j → i = j) ∧
  (∀ k, k < tn a7 → s k = 0 → ∃ p, p < tn a12 ∧ Q p = nI k) ∧
  (∀ k, k < tn a7 → 0 ≤ e k ∧ 1 ≤ tn (e k) ∧ tn (e k) ≤ 9)
theorem md_V_eq (A : Nat → Int32) : md_V A = md_VV (A 0) (A 6) (A 7) (A 8) (A 10) (A 12) (fun i => A (16 + i)) (fun k => A (66 + 15 * k + 12)) (fun k => A (66 + 15 * k)) := rfl
section
variable {a0 a6 a7 a8 a10 a12 : Int32} {Q s e Q' s' e' : Nat → Int32}
theorem tn_inj {x y : Int32} (hx : 0 ≤ x) (hy : 0 ≤ y) (h : tn x = tn y) : x = y := by rw [← nI_tn hx, ← nI_tn hy, h]
theorem VV_qle (hv : md_VV a0 a6 a7 a8 a10 a12 Q s e) : tn a12 ≤ tn a7 := by
  obtain ⟨-, -, -, -, -, -, hq, hi, -, -⟩ := hv
  exact pigeon _ _ (fun i => tn (Q i)) (fun i h => (hq i h).2.1) (fun i j h1 h2 z => hi i j h1 h2 (tn_inj (hq i h1).1 (hq j h2).1 z))
theorem VV_qlt (hv : md_VV a0 a6 a7 a8 a10 a12 Q s e) (h8 : 0 ≤ a8) : tn a12 < tn a7 := by
  obtain ⟨-, -, -, ho, -, -, hq, hi, -, -⟩ := hv
  have ho : tn a8 < tn a7 ∧ ¬ s (tn a8) = 0 := by
    rcases ho with z | z
    · rw [z] at h8; exact absurd h8 i_m1
    · exact z.2
  have hne : ∀ i, i < tn a12 → tn (Q i) ≠ tn a8 := fun i h z => ho.2 (by rw [← z]; exact (hq i h).2.2)
  refine pigeon _ (tn a12 + 1) (fun i => if i < tn a12 then tn (Q i) else tn a8) (fun i h => ?_) (fun i j h1 h2 z => ?_)
  · show (if i < tn a12 then tn (Q i) else tn a8) < tn a7
    split
    · exact (hq i (by omega)).2.1
    · exact ho.1
  · split at z <;> split at z
    · exact hi i j (by omega) (by omega) (tn_inj (hq i (by omega)).1 (hq j (by omega)).1 z)
    · exact absurd z (hne i (by omega))
    · exact absurd z.symm (hne j (by omega))
    · omega
theorem VV_congr (hv : md_VV a0 a6 a7 a8 a10 a12 Q s e) (hQ : ∀ i, i < 20 → Q' i = Q i) (hs : ∀ i, i < 20 → s' i = s i) (he : ∀ i, i < 20 → e' i = e i) : md_VV a0 a6 a7 a8 a10 a12 Q' s' e' := by
  obtain ⟨h0, h6, h7, h8, h10, h12, hq, hi, hw, hee⟩ := hv
  refine ⟨h0, h6, h7, ?_, h10, h12, ?_, ?_, ?_, ?_⟩
  · rcases h8 with z | z
    · exact Or.inl z
    · exact Or.inr ⟨z.1, z.2.1, by rw [hs _ (by omega)]; exact z.2.2⟩
  · intro i h
    have q := hq i h
    rw [hQ i (by omega), hs _ (by omega)]
    exact q
  · intro i j h1 h2
    rw [hQ i (by omega), hQ j (by omega)]
    exact hi i j h1 h2
  · intro k h z
    rw [hs k (by omega)] at z
    obtain ⟨p, g1, g2⟩ := hw k h z
    exact ⟨p, g1, by rw [hQ p (by omega)]; exact g2⟩
  · intro k h
    rw [he k (by omega)]
    exact hee k h
theorem VV_shut (hv : md_VV a0 a6 a7 a8 a10 a12 Q s e) (h8 : 0 ≤ a8) {x : Int32} (hx : ¬ x = 0) (hs : ∀ k, k < 20 → s' k = if k = tn a8 then x else s k) : md_VV a0 a6 a7 (-1) (-1) a12 Q s' e := by
  have hv0 := hv
  obtain ⟨h0, h6, h7, ho, h10, h12, hq, hi, hw, hee⟩ := hv
  have ho : tn a8 < tn a7 ∧ ¬ s (tn a8) = 0 := by
    rcases ho with z | z
    · rw [z] at h8; exact absurd h8 i_m1
    · exact z.2
  refine ⟨h0, h6, h7, Or.inl rfl, Or.inl rfl, h12, ?_, hi, ?_, hee⟩
  · intro i h
    have q := hq i h
    refine ⟨q.1, q.2.1, ?_⟩
    rw [hs _ (by omega), if_neg (fun z => ho.2 (by rw [← z]; exact q.2.2))]
    exact q.2.2
  · intro k h z
    rw [hs k (by omega)] at z
    split at z
    · exact absurd z hx
    · exact hw k h z
theorem VV_back (hv : md_VV a0 a6 a7 a8 a10 a12 Q s e) (h8 : 0 ≤ a8) {a' : Int32} (ha : a' = a12 + nI 1) (hQ : ∀ i, i < 20 → Q' i = if i = tn a12 then nI (tn a8) else Q i) (hs : ∀ k, k < 20 → s' k = if k = tn a8 then 0 else s k) : md_VV a0 a6 a7 (-1) (-1) a' Q' s' e := by
  have hlt := VV_qlt hv h8
  obtain ⟨h0, h6, h7, ho, h10, h12, hq, hi, hw, hee⟩ := hv
  have t := tn_inc h12.1 (by omega)
  subst ha
  have ho : tn a8 < tn a7 ∧ ¬ s (tn a8) = 0 := by
    rcases ho with z | z
    · rw [z] at h8; exact absurd h8 i_m1
    · exact z.2
  have hne : ∀ i, i < tn a12 → ¬ Q i = nI (tn a8) := fun i h z => by
    have q := hq i h
    rw [z, tn_nI (by omega)] at q
    exact ho.2 q.2.2
  refine ⟨h0, h6, h7, Or.inl rfl, Or.inl rfl, ⟨t.1, by rw [t.2]; omega⟩, ?_, ?_, ?_, hee⟩
  · intro i h
    rw [t.2] at h
    rw [hQ i (by omega)]
    split
    · rw [tn_nI (by omega), hs _ (by omega), if_pos rfl]
      exact ⟨nI_ge0 (by omega), ho.1, rfl⟩
    · have q := hq i (by omega)
      refine ⟨q.1, q.2.1, ?_⟩
      rw [hs _ (by omega)]
      split
      · rfl
      · exact q.2.2
  · intro i j h1 h2
    rw [t.2] at h1 h2
    rw [hQ i (by omega), hQ j (by omega)]
    split <;> split <;> intro z
    · omega
    · exact absurd z.symm (hne j (by omega))
    · exact absurd z (hne i (by omega))
    · exact hi i j (by omega) (by omega) z
  · intro k h z
    rw [t.2]
    by_cases c : k = tn a8
    · exact ⟨tn a12, by omega, by rw [hQ _ (by omega), if_pos rfl, c]⟩
    · rw [hs k (by omega), if_neg c] at z
      obtain ⟨p, g1, g2⟩ := hw k h z
      exact ⟨p, by omega, by rw [hQ p (by omega), if_neg (by omega)]; exact g2⟩
theorem VV_deq (hv : md_VV a0 a6 a7 a8 a10 a12 Q s e) {p b : Nat} (hp : p < tn a12) (hb : Q p = nI b) (hbb : b < 20) {x a' a8' a10' : Int32} (hx : ¬ x = 0) (ha : a' = nI (tn a12 - 1)) (hQ : ∀ i, i < tn a12 - 1 → Q' i = if i < p then Q i else Q (i + 1)) (hs : ∀ k, k < 20 → s' k = if k = b then x else s k)
  (h810 : (a8' = a8 ∧ a10' = a10) ∨ (a8' = nI b ∧ a10' = -1)) : md_VV a0 a6 a7 a8' a10' a' Q' s' e := by
  obtain ⟨h0, h6, h7, ho, h10, h12, hq, hi, hw, hee⟩ := hv
  have t : tn a' = tn a12 - 1 := by rw [ha, tn_nI (by omega)]
  have hbn : b < tn a7 ∧ s b = 0 := by
    have q := hq p hp
    rw [hb, tn_nI (by omega)] at q
    exact q.2
  have hne : ∀ i, i < tn a12 → i ≠ p → tn (Q i) ≠ b := fun i h hip z => hip (hi i p h hp (by rw [hb, ← z]; exact (nI_tn (hq i h).1).symm))
  refine ⟨h0, h6, h7, ?_, ?_, ⟨by rw [ha]; exact nI_ge0 (by omega), by omega⟩, ?_, ?_, ?_, hee⟩
  · rcases h810 with z | z
    · rw [z.1]
      rcases ho with y | y
      · exact Or.inl y
      · refine Or.inr ⟨y.1, y.2.1, ?_⟩
        rw [hs _ (by omega)]
        split
        · exact hx
        · exact y.2.2
    · refine Or.inr ?_
      rw [z.1, tn_nI (by omega), hs _ (by omega), if_pos rfl]
      exact ⟨nI_ge0 (by omega), hbn.1, hx⟩
  · rcases h810 with z | z
    · rw [z.1, z.2]; exact h10
    · exact Or.inl z.2
  · intro i h
    rw [t] at h
    rw [hQ i h]
    split
    · have q := hq i (by omega)
      refine ⟨q.1, q.2.1, ?_⟩
      rw [hs _ (by omega), if_neg (hne i (by omega) (by omega))]
      exact q.2.2
    · have q := hq (i + 1) (by omega)
      refine ⟨q.1, q.2.1, ?_⟩
      rw [hs _ (by omega), if_neg (hne (i + 1) (by omega) (by omega))]
      exact q.2.2
  · intro i j h1 h2
    rw [t] at h1 h2
    rw [hQ i h1, hQ j h2]
    split <;> split <;> intro z
    · exact hi _ _ (by omega) (by omega) z
    · have := hi _ _ (by omega) (by omega) z; omega
    · have := hi _ _ (by omega) (by omega) z; omega
    · have := hi _ _ (by omega) (by omega) z; omega
  · intro k h z
    rw [hs k (by omega)] at z
    split at z
    · exact absurd z hx
    · rename_i hkb
      obtain ⟨j, g1, g2⟩ := hw k h z
      have hjp : j ≠ p := fun y => by
        rw [y, hb] at g2
        exact hkb ((nI_eq (by omega) (by omega)).1 g2).symm
      rcases Nat.lt_or_ge j p with c | c
      · exact ⟨j, by omega, by rw [hQ j (by omega), if_pos c]; exact g2⟩
      · refine ⟨j - 1, by omega, ?_⟩
        rw [hQ (j - 1) (by omega), if_neg (by omega), show j - 1 + 1 = j by omega]
        exact g2
theorem VV_new (hv : md_VV a0 a6 a7 a8 a10 a12 Q s e) (h20 : tn a7 < 20) {a7' a' : Int32} (ha7 : a7' = a7 + nI 1) (ha : a' = a12 + nI 1) (hQ : ∀ i, i < 20 → Q' i = if i = tn a12 then nI (tn a7) else Q i) (hs : ∀ k, k < 20 → s' k = if k = tn a7 then 0 else s k)
  (he : ∀ k, k < tn a7 + 1 → 0 ≤ e' k ∧ 1 ≤ tn (e' k) ∧ tn (e' k) ≤ 9) : md_VV a0 a6 a7' a8 a10 a' Q' s' e' := by
  have hle := VV_qle hv
  obtain ⟨h0, h6, h7, ho, h10, h12, hq, hi, hw, hee⟩ := hv
  have t := tn_inc h12.1 (by omega)
  have t7 := tn_inc h7.1 (by omega)
  subst ha ha7
  have hne : ∀ i, i < tn a12 → ¬ Q i = nI (tn a7) := fun i h z => by
    have q := hq i h
    rw [z, tn_nI (by omega)] at q
    omega
  refine ⟨h0, h6, ⟨t7.1, by rw [t7.2]; omega⟩, ?_, h10, ⟨t.1, by rw [t.2]; omega⟩, ?_, ?_, ?_, ?_⟩
  · rcases ho with z | z
    · exact Or.inl z
    · refine Or.inr ⟨z.1, by rw [t7.2]; omega, ?_⟩
      rw [hs _ (by omega), if_neg (by omega)]
      exact z.2.2
  · intro i h
    rw [t.2] at h
    rw [hQ i (by omega), t7.2]
    split
    · rw [tn_nI (by omega), hs _ (by omega), if_pos rfl]
      exact ⟨nI_ge0 (by omega), by omega, rfl⟩
    · have q := hq i (by omega)
      refine ⟨q.1, by omega, ?_⟩
      rw [hs _ (by omega), if_neg (by omega)]
      exact q.2.2
  · intro i j h1 h2
    rw [t.2] at h1 h2
    rw [hQ i (by omega), hQ j (by omega)]
    split <;> split <;> intro z
    · omega
    · exact absurd z.symm (hne j (by omega))
    · exact absurd z (hne i (by omega))
    · exact hi i j (by omega) (by omega) z
  · intro k h z
    rw [t7.2] at h
    rw [t.2]
    by_cases c : k = tn a7
    · exact ⟨tn a12, by omega, by rw [hQ _ (by omega), if_pos rfl, c]⟩
    · rw [hs k (by omega), if_neg c] at z
      obtain ⟨p, g1, g2⟩ := hw k (by omega) z
      exact ⟨p, by omega, by rw [hQ p (by omega), if_neg (by omega)]; exact g2⟩
  · intro k h
    rw [t7.2] at h
    exact he k (by omega)
theorem VV_lead (hv : md_VV a0 a6 a7 a8 a10 a12 Q s e) (h8 : 0 ≤ a8) {b : Nat} (hb : b < tn a6) : md_VV a0 a6 a7 a8 (nI b) a12 Q s e := by
  obtain ⟨h0, h6, h7, ho, h10, h12, hq, hi, hw, hee⟩ := hv
  exact ⟨h0, h6, h7, ho, Or.inr ⟨nI_ge0 (by omega), by rw [tn_nI (by omega)]; exact hb, h8⟩, h12, hq, hi, hw, hee⟩
theorem VV_eels (hv : md_VV a0 a6 a7 a8 a10 a12 Q s e) (he : ∀ k, k < tn a7 → 0 ≤ e' k ∧ 1 ≤ tn (e' k) ∧ tn (e' k) ≤ 9) : md_VV a0 a6 a7 a8 a10 a12 Q s e' := by
  obtain ⟨h0, h6, h7, ho, h10, h12, hq, hi, hw, hee⟩ := hv
  exact ⟨h0, h6, h7, ho, h10, h12, hq, hi, hw, he⟩
end
end
section
def M_thinker_L14 (m : Nat) : Nat → ow_I → Nat → Int32
  | 0, I, _ => default
  | n + 1, I, i => if tn (I (m + 1) 6) < i then (-1) else if M_reasonAgainst m (tn ((I (m + 1) 10 + (nI i)) - (I (m + 1) 10 + (nI i)) / (I (m + 1) 6) * (I (m + 1) 6))) I = 0 then if Op.cmpValue (FP.dcmp (M_worthTo m (tn ((I (m + 1) 10 + (nI i)) - (I (m + 1) 10 + (nI i)) / (I (m + 1) 6) * (I (m + 1) 6))) (tn (I (m + 1) 8)) I) (FP.i2d (M_bidNext m I))) .l < 0 then M_thinker_L14 m n I (i + 1) else nI (tn ((I (m + 1) 10 + (nI i)) - (I (m + 1) 10 + (nI i)) / (I (m + 1) 6) * (I (m + 1) 6))) else M_thinker_L14 m n I (i + 1)
def M_thinker (m : Nat) (I : ow_I) : Int32 :=
  if 0 ≤ I (m + 1) 8 then M_thinker_L14 m 8 I 1 else (-1)
def M_sell (m : Nat) (k : Nat) (b : Nat) (I : ow_I) : ow_I :=
  lt (M_put m b 0 (M_of m b 0 I - (M_costOfPrice m (I (m + 1) 9) I)) I) (fun (I1 : ow_I) => lt (M_put m b 3 (M_of m b 3 I1 + (nI 1)) I1) (fun (I2 : ow_I) => lt (ow_u I2 (m + 1) 13 (I2 (m + 1) 13 + (I (m + 1) 9))) (fun (I3 : ow_I) => lt (ow_u I3 (m + 1) 14 (I3 (m + 1) 14 + (M_costOfPrice m (I (m + 1) 9) I - (I (m + 1) 9)))) (fun (I4 : ow_I) => lt (M_putBarrel m k 12 (nI 2) I4) (fun (I5 : ow_I) => lt (M_putBarrel m k 13 (nI b) I5) (fun (I6 : ow_I) => lt (M_putBarrel m k 14 (I (m + 1) 9) I6) (fun (I7 : ow_I) => I7)))))))
def M_turnBack (m : Nat) (b : Nat) (I : ow_I) : ow_I :=
  lt (M_putBarrel m b 11 (M_ofBarrel m b 11 I + (nI 1)) I) (fun (I1 : ow_I) => if M_ofBarrel m b 11 I + (nI 1) = nI 3 then lt (M_putBarrel m b 12 (nI 3) I1) (fun (I3 : ow_I) => I3) else lt (M_enqueue m b I1) (fun (I2 : ow_I) => I2))
def M_dequeue_L34 (m : Nat) (b : Nat) : Nat → ow_I → Nat → ow_I
  | 0, I, _ => I
  | n + 1, I, j => if tn (I (m + 1) 12) ≤ j then I else lt (ow_u I (m + 1) (16 + j) (I (m + 1) (16 + j + 1))) (fun (I2 : ow_I) => M_dequeue_L34 m b n I2 (j + 1))
def M_dequeue_L2 (m : Nat) (b : Nat) : Nat → ow_I → Nat → ow_I
  | 0, I, _ => I
  | n + 1, I, i => if I (m + 1) (16 + i) = nI b then lt (ow_u I (m + 1) 12 (I (m + 1) 12 - (nI 1))) (fun (I1 : ow_I) => M_dequeue_L34 m b 21 I1 i) else M_dequeue_L2 m b n I (i + 1)
def M_dequeue (m : Nat) (b : Nat) (I : ow_I) : ow_I :=
  M_dequeue_L2 m b 21 I 0
def M_closeBarrel (m : Nat) (I : ow_I) : ow_I :=
  if I (m + 1) 10 < 0 then lt (M_turnBack m (tn (I (m + 1) 8)) I) (fun (I1 : ow_I) => lt (ow_u I1 (m + 1) 8 ((-1))) (fun (I2 : ow_I) => lt (ow_u I2 (m + 1) 10 ((-1))) (fun (I3 : ow_I) => lt (ow_u I3 (m + 1) 9 (nI 0)) (fun (I4 : ow_I) => lt (ow_u I4 (m + 1) 11 (nI 0)) (fun (I5 : ow_I) => I5))))) else lt (M_sell m (tn (I (m + 1) 8)) (tn (I (m + 1) 10)) I) (fun (I6 : ow_I) => lt (ow_u I6 (m + 1) 8 ((-1))) (fun (I7 : ow_I) => lt (ow_u I7 (m + 1) 10 ((-1))) (fun (I8 : ow_I) => lt (ow_u I8 (m + 1) 9 (nI 0)) (fun (I9 : ow_I) => lt (ow_u I9 (m + 1) 11 (nI 0)) (fun (I10 : ow_I) => I10)))))
def M_openFirst (m : Nat) (I : ow_I) : ow_I :=
  if tn (I (m + 1) 12) = 0 then I else lt (M_dequeue m (tn (I (m + 1) 16)) I) (fun (I1 : ow_I) => lt (M_putBarrel m (tn (I (m + 1) 16)) 12 (nI 1) I1) (fun (I2 : ow_I) => lt (ow_u I2 (m + 1) 8 (nI (tn (I (m + 1) 16)))) (fun (I3 : ow_I) => lt (ow_u I3 (m + 1) 10 ((-1))) (fun (I4 : ow_I) => lt (ow_u I4 (m + 1) 9 (nI 0)) (fun (I5 : ow_I) => lt (ow_u I5 (m + 1) 11 (nI 0)) (fun (I6 : ow_I) => I6))))))
end
section
/-! pure rows of the reference: what its acts keep -/
theorem mdV_q {A : Nat → Int32} (hv : md_V A) (h8 : 0 ≤ A 8) : tn (A 12) < 20 := by
  have h2 := hv.2.2.1.2
  rw [md_V_eq] at hv
  have h1 := VV_qlt hv h8
  omega
theorem u_one {I : ow_I} {a k j : Nat} {x : Int32} : ow_u I a k x a j = if j = k then x else I a j := by
  by_cases h : j = k <;> simp [ow_u, h]
theorem V_row {m : Nat} {I : ow_I} (hv : md_V (I (m + 1))) {k : Nat} (x : Int32) (hk : k = 5 ∨ k = 11 ∨ k = 3) : md_V (ow_u I (m + 1) k x (m + 1)) := by
  rw [md_V_eq] at hv ⊢
  rw [ow_u_k _ _ _ _ (by omega), ow_u_k _ _ _ _ (by omega), ow_u_k _ _ _ _ (by omega), ow_u_k _ _ _ _ (by omega), ow_u_k _ _ _ _ (by omega), ow_u_k _ _ _ _ (by omega)]
  exact VV_congr hv (fun i _ => ow_u_k _ _ _ _ (by omega) _) (fun i _ => ow_u_k _ _ _ _ (by omega) _) (fun i _ => ow_u_k _ _ _ _ (by omega) _)
theorem V_close {m : Nat} {I : ow_I} (hv : md_V (I (m + 1))) (h8 : 0 ≤ I (m + 1) 8) : md_V (M_closeBarrel m I (m + 1)) := by
  have hb := mdV_8 hv h8
  have hq := mdV_q hv h8
  have h10 := mdV_10 hv
  rw [md_V_eq] at hv ⊢
  simp only [M_closeBarrel, lt_eq]
  split
  · simp only [M_turnBack, lt_eq]
    split
    · simp (disch := omega) only [lt_eq, u_one, M_putBarrel, if_neg, if_pos]
      refine VV_congr (VV_shut hv h8 (x := nI 3) (by decide) (fun k _ => rfl)) (fun i hi => ?_) (fun i hi => ?_) (fun i hi => ?_)
      · simp (disch := omega) only [if_neg]
      · by_cases c : i = tn (I (m + 1) 8)
        · simp (disch := omega) only [if_neg, if_pos c]
          simp [c]
        · simp (disch := omega) only [if_neg]
      · simp (disch := omega) only [if_neg]
    · simp (disch := omega) only [M_enqueue, lt_eq, u_one, M_putBarrel, if_neg, if_pos]
      refine VV_congr (VV_back hv h8 rfl (fun k _ => rfl) (fun k _ => rfl)) (fun i hi => ?_) (fun i hi => ?_) (fun i hi => ?_)
      · by_cases c : i = tn (I (m + 1) 12)
        · simp [c]
        · simp (disch := omega) only [if_neg]
      · by_cases c : i = tn (I (m + 1) 8)
        · simp [c, nI_0]
        · simp (disch := omega) only [if_neg]
      · simp (disch := omega) only [if_neg]
  · rename_i hl
    have hl := h10 (i_nlt hl)
    simp (disch := omega) only [M_sell, lt_eq, u_one, M_putBarrel, M_put, if_neg, if_pos]
    refine VV_congr (VV_shut hv h8 (x := nI 2) (by decide) (fun k _ => rfl)) (fun i hi => ?_) (fun i hi => ?_) (fun i hi => ?_)
    · simp (disch := omega) only [if_neg]
    · by_cases c : i = tn (I (m + 1) 8)
      · simp [c]
      · simp (disch := omega) only [if_neg]
    · simp (disch := omega) only [if_neg]
/-- the queue without the barrel at p -/
theorem dq34 {m b p : Nat} {A : Nat → Int32} : ∀ (n : Nat) (I : ow_I) (j : Nat), p ≤ j → tn (I (m + 1) 12) ≤ 20 → tn (I (m + 1) 12) - j < n →
   (∀ k, k < 16 + j → I (m + 1) k = if 16 + p ≤ k then A (k + 1) else A k) → (∀ k, 16 + j ≤ k → I (m + 1) k = A k) →
   ∀ k, M_dequeue_L34 m b n I j (m + 1) k = if 16 + p ≤ k ∧ k < 16 + max (tn (I (m + 1) 12)) j then A (k + 1) else A k := by
  intro n
  induction n with
  | zero => intro I j hp h20 h; omega
  | succ n ih =>
    intro I j hp h20 h h1 h2 k
    simp only [M_dequeue_L34, lt_eq]
    split
    · rename_i hj
      rcases Nat.lt_or_ge k (16 + j) with c | c
      · rw [h1 k c]
        by_cases d : 16 + p ≤ k
        · rw [if_pos d, if_pos (by omega)]
        · rw [if_neg d, if_neg (by omega)]
      · rw [h2 k c, if_neg (by omega)]
    · rename_i hj
      have e12 : ow_u I (m + 1) (16 + j) (I (m + 1) (16 + j + 1)) (m + 1) 12 = I (m + 1) 12 := ow_u_k _ _ _ _ (by omega) _
      rw [ih _ (j + 1) (by omega) (by rw [e12]; exact h20) (by rw [e12]; omega), e12, show max (tn (I (m + 1) 12)) (j + 1) = max (tn (I (m + 1) 12)) j by omega]
      · intro k hk
        rw [u_one]
        split
        · rename_i e
          rw [e, if_pos (by omega), h2 _ (by omega)]
        · exact h1 k (by omega)
      · intro k hk
        rw [u_one, if_neg (by omega)]
        exact h2 k (by omega)
theorem dq2 {m b p : Nat} : ∀ (n : Nat) (I : ow_I) (i : Nat), i ≤ p → p - i < n → 0 ≤ I (m + 1) 12 → tn (I (m + 1) 12) ≤ 20 → p < tn (I (m + 1) 12) → I (m + 1) (16 + p) = nI b → (∀ j, j < p → ¬ I (m + 1) (16 + j) = nI b) →
   ∀ k, M_dequeue_L2 m b n I i (m + 1) k = if k = 12 then nI (tn (I (m + 1) 12) - 1) else if 16 + p ≤ k ∧ k < 16 + (tn (I (m + 1) 12) - 1) then I (m + 1) (k + 1) else I (m + 1) k := by
  intro n
  induction n with
  | zero => intro I i h1 h2; omega
  | succ n ih =>
    intro I i h1 h2 h0 h20 hp hb hn k
    simp only [M_dequeue_L2, lt_eq]
    split
    · rename_i c
      have e : i = p := by
        rcases Nat.lt_or_ge i p with z | z
        · exact absurd c (hn i z)
        · omega
      subst e
      have e12 : I (m + 1) 12 - nI 1 = nI (tn (I (m + 1) 12) - 1) := by
        rw [← pk_sub (by omega), nI_tn h0]
      have r := @dq34 m b i (fun k => if k = 12 then nI (tn (I (m + 1) 12) - 1) else I (m + 1) k) 21 (ow_u I (m + 1) 12 (nI (tn (I (m + 1) 12) - 1))) i (Nat.le_refl _) (by rw [ow_u_s, tn_nI (by omega)]; omega) (by rw [ow_u_s, tn_nI (by omega)]; omega) (fun k hk => by rw [u_one, if_neg (show ¬ 16 + i ≤ k by omega)]) (fun k hk => by rw [u_one]) k
      rw [e12, r, ow_u_s, tn_nI (by omega), show max (tn (I (m + 1) 12) - 1) i = tn (I (m + 1) 12) - 1 by omega]
      by_cases d : 16 + i ≤ k ∧ k < 16 + (tn (I (m + 1) 12) - 1)
      · simp only [if_pos d]
        rw [if_neg (by omega), if_neg (by omega)]
      · simp only [if_neg d]
    · rename_i c
      have : i ≠ p := fun z => c (by rw [z]; exact hb)
      exact ih I (i + 1) (by omega) (by omega) h0 h20 hp hb hn k
/-- what a dequeuing leaves -/
theorem dq_cells {m b p : Nat} {I : ow_I} (h0 : 0 ≤ I (m + 1) 12) (h20 : tn (I (m + 1) 12) ≤ 20) (hp : p < tn (I (m + 1) 12)) (hb : I (m + 1) (16 + p) = nI b) (hn : ∀ j, j < p → ¬ I (m + 1) (16 + j) = nI b) (k : Nat) :
   M_dequeue m b I (m + 1) k = if k = 12 then nI (tn (I (m + 1) 12) - 1) else if 16 + p ≤ k ∧ k < 16 + (tn (I (m + 1) 12) - 1) then I (m + 1) (k + 1) else I (m + 1) k :=
  dq2 21 I 0 (by omega) (by omega) h0 h20 hp hb hn k
theorem V_openFirst {m : Nat} {I : ow_I} (hv : md_V (I (m + 1))) (h8 : ¬ 0 ≤ I (m + 1) 8) : md_V (M_openFirst m I (m + 1)) := by
  simp only [M_openFirst, lt_eq]
  split
  · exact hv
  · rename_i hne
    have h12 := hv.2.2.2.2.2.1
    have h0 := mdV_q0 hv (by omega)
    rw [md_V_eq] at hv ⊢
    have d := @dq_cells m (tn (I (m + 1) 16)) 0 I h12.1 h12.2 (by omega) (nI_tn h0.1).symm (fun j hj => by omega)
    simp (disch := omega) only [lt_eq, u_one, M_putBarrel, if_neg, ↓reduceIte, d]
    refine VV_congr (VV_deq hv (p := 0) (b := tn (I (m + 1) 16)) (by omega) (nI_tn h0.1).symm h0.2 (x := nI 1) (by decide) rfl (Q' := fun i => if 16 + 0 ≤ 16 + i ∧ 16 + i < 16 + (tn (I (m + 1) 12) - 1) then I (m + 1) (16 + i + 1) else I (m + 1) (16 + i)) (fun i hi => by rw [if_pos (by omega), if_neg (by omega)]; rfl) (fun k hk => rfl) (Or.inr ⟨rfl, rfl⟩)) (fun i hi => ?_) (fun i hi => ?_) (fun i hi => ?_)
    · simp (disch := omega) only [if_neg]
    · by_cases c : i = tn (I (m + 1) 16)
      · simp [c]
      · simp (disch := omega) only [if_neg]
    · simp (disch := omega) only [if_neg]
theorem M_thinker_rng {m : Nat} {I : ow_I} (hv : md_V (I (m + 1))) (h : 0 ≤ M_thinker m I) : tn (M_thinker m I) < tn (I (m + 1) 6) := by
  have key : ∀ (n i : Nat), 1 ≤ i → 0 ≤ M_thinker_L14 m n I i → tn (M_thinker_L14 m n I i) < tn (I (m + 1) 6) := by
    intro n
    induction n with
    | zero => intro i _ _; have := hv.2.1.2.1; simp only [M_thinker_L14]; show tn 0 < _; rw [show tn 0 = 0 from rfl]; omega
    | succ n ih =>
      intro i h1
      simp only [M_thinker_L14]
      split
      · intro h; exact absurd h i_m1
      · have t := md_th hv h1 (by omega)
        split
        · split
          · exact ih _ (by omega)
          · intro _
            rw [nI_tn t.1]
            exact t.2
        · exact ih _ (by omega)
  revert h
  unfold M_thinker
  split
  · exact key 8 1 (by omega)
  · intro h; exact absurd h i_m1
theorem V_nodNow {m b : Nat} {I : ow_I} (hv : md_V (I (m + 1))) (h8 : 0 ≤ I (m + 1) 8) (hb : b < tn (I (m + 1) 6)) : md_V ((M_nodNow m b I).2 (m + 1)) := by
  have h6 := hv.2.1.2.2
  rw [md_V_eq] at hv ⊢
  simp (disch := omega) only [M_nodNow, lt_eq, u_one, M_put, if_neg, if_pos]
  refine VV_congr (VV_lead hv h8 hb) (fun i hi => ?_) (fun i hi => ?_) (fun i hi => ?_)
  · simp (disch := omega) only [if_neg]
  · simp (disch := omega) only [if_neg]
  · simp (disch := omega) only [if_neg]
theorem i_lt0 {x : Int32} (h : ¬ x < 0) : 0 ≤ x := i_nlt h
end
section
def M_think (m : Nat) (I : ow_I) : ow_I :=
  if M_thinker m I < 0 then lt (ow_u I (m + 1) 11 (I (m + 1) 11 + (nI 1))) (fun (I1 : ow_I) => if I1 (m + 1) 11 < I1 (m + 1) 2 then I1 else lt (M_closeBarrel m I1) (fun (I2 : ow_I) => I2)) else lt (M_nodNow m (tn (M_thinker m I)) I) (fun (r3 : Int32 × ow_I) => r3.2)
def M_passOne (m : Nat) (I : ow_I) : ow_I :=
  lt (ow_u I (m + 1) 5 (I (m + 1) 5 + (nI 1))) (fun (I1 : ow_I) => if M_blowsIn m (I1 (m + 1) 5) I1 then if I1 (m + 1) 8 < 0 then if M_isOpenNow m I1 then if 0 ≤ I1 (m + 1) 8 then lt (M_think m I1) (fun (I4 : ow_I) => I4) else lt (M_openFirst m I1) (fun (I5 : ow_I) => I5) else I1 else lt (M_closeBarrel m I1) (fun (I6 : ow_I) => if M_isOpenNow m I6 then if 0 ≤ I6 (m + 1) 8 then lt (M_think m I6) (fun (I7 : ow_I) => I7) else lt (M_openFirst m I6) (fun (I8 : ow_I) => I8) else I6) else if M_isOpenNow m I1 then if 0 ≤ I1 (m + 1) 8 then lt (M_think m I1) (fun (I2 : ow_I) => I2) else lt (M_openFirst m I1) (fun (I3 : ow_I) => I3) else I1)
def M_countState_L4 (m : Nat) (w : Int32) : Nat → ow_I → Nat → Nat → Int32
  | 0, I, _, _ => default
  | n + 1, I, c, e => if tn (I (m + 1) 7) ≤ e then nI c else if M_ofBarrel m e 12 I = w then M_countState_L4 m w n I (c + 1) (e + 1) else M_countState_L4 m w n I c (e + 1)
def M_countState (m : Nat) (w : Int32) (I : ow_I) : Int32 :=
  M_countState_L4 m w 21 I 0 0
end
section
theorem V_think {m : Nat} {I : ow_I} (hv : md_V (I (m + 1))) (h8 : 0 ≤ I (m + 1) 8) : md_V (M_think m I (m + 1)) := by
  simp only [M_think, lt_eq]
  split
  · have hr := V_row hv (I (m + 1) 11 + nI 1) (Or.inr (Or.inl rfl))
    split
    · exact hr
    · exact V_close hr (by rw [ow_u_k _ _ _ _ (by decide)]; exact h8)
  · exact V_nodNow hv h8 (M_thinker_rng hv (i_nlt (by assumption)))
theorem V_passOne {m : Nat} {I : ow_I} (hv : md_V (I (m + 1))) : md_V (M_passOne m I (m + 1)) := by
  have key : ∀ J : ow_I, md_V (J (m + 1)) → md_V ((if M_isOpenNow m J then if 0 ≤ J (m + 1) 8 then M_think m J else M_openFirst m J else J) (m + 1)) := by
    intro J hJ
    split
    · split
      · exact V_think hJ (by assumption)
      · exact V_openFirst hJ (by assumption)
    · exact hJ
  simp only [M_passOne, lt_eq]
  have hr := V_row hv (I (m + 1) 5 + nI 1) (Or.inl rfl)
  split
  · split
    · exact key _ hr
    · exact key _ (V_close hr (i_nlt (by assumption)))
  · exact key _ hr
def M_passAll_L8 (m : Nat) (n2 : Nat) : Nat → ow_I → Int32 → Nat → Int32 × ow_I
  | 0, I, _, _ => (default, I)
  | n + 1, I, c, i => if n2 ≤ i then (M_countState m (nI 2) I - c, I) else lt (M_passOne m I) (fun (I1 : ow_I) => M_passAll_L8 m n2 n I1 c (i + 1))
def M_passAll (m : Nat) (n2 : Nat) (I : ow_I) : Int32 × ow_I :=
  M_passAll_L8 m n2 (n2 + 1) I (M_countState m (nI 2) I) 0
def M_atLeastOne (v : Int32) (I : ow_I) : Int32 :=
  if nI 1 ≤ v then v else nI 1
def M_isWaiting (m : Nat) (b : Nat) (I : ow_I) : Bool :=
  if M_ofBarrel m b 12 I = 0 then true else false
def M_canSplit (m : Nat) (b : Nat) (e : Nat) (I : ow_I) : Bool :=
  if M_isWaiting m b I then if M_ofBarrel m b 0 I ≤ nI e then false else if nI 20 ≤ I (m + 1) 7 then false else true else false
end
section
theorem rdAE0 {m b : Nat} {x : Int32} {I : ow_I} : M_ofBarrel m b 0 (M_addEel m b x I) = nI (tn (M_ofBarrel m b 0 I) + 1) := by
  simp [M_addEel, M_ofBarrel, M_putBarrel, lt_eq, ow_u]
theorem rdNB1 {m : Nat} {r : Int32} {I : ow_I} : (M_newBarrel m r I).1 = tn (I (m + 1) 7) := rfl
theorem rdNB0 {m : Nat} {r : Int32} {I : ow_I} (h : tn (I (m + 1) 12) < 20) : M_ofBarrel m (tn (I (m + 1) 7)) 0 (M_newBarrel m r I).2 = nI 0 := by
  simp (disch := omega) only [M_newBarrel, M_ofBarrel, M_enqueue, M_putBarrel, lt_eq, ow_u_k, ow_u_s]
def M_splitNow_L40 (m : Nat) (b : Nat) (e : Nat) : Nat → ow_I → Nat → Int32 → Int32 → Nat → Nat → Nat × ow_I
  | 0, I, _, _, _, _, _ => (default, I)
  | n + 1, I, n3, r4, s5, p6, j => if n3 ≤ j then lt (M_putBarrel m b 0 (nI (n3 - e)) I) (fun (I2 : ow_I) => lt (M_putBarrel m b 10 (M_atLeastOne (r4 - s5) I2) I2) (fun (I3 : ow_I) => (p6, I3))) else lt (M_addEel m p6 (M_lengthOf m b j I) I) (fun (I4 : ow_I) => M_splitNow_L40 m b e n I4 n3 r4 s5 p6 (j + 1))
def M_splitNow (m : Nat) (b : Nat) (e : Nat) (I : ow_I) : Nat × ow_I :=
  lt (M_newBarrel m (M_atLeastOne (((M_ofBarrel m b 10 I) * (nI e)) / (nI (tn (M_ofBarrel m b 0 I)))) I) I) (fun (r1 : Nat × ow_I) => M_splitNow_L40 m b e 10 r1.2 (tn (M_ofBarrel m b 0 I)) (M_ofBarrel m b 10 I) (((M_ofBarrel m b 10 I) * (nI e)) / (nI (tn (M_ofBarrel m b 0 I)))) r1.1 ((tn (M_ofBarrel m b 0 I)) - e))
def M_withdrawNow (m : Nat) (b : Nat) (I : ow_I) : Int32 × ow_I :=
  lt (M_dequeue m b I) (fun (I1 : ow_I) => lt (M_putBarrel m b 12 (nI 3) I1) (fun (I2 : ow_I) => (I2 (m + 1) 12, I2)))
def M_fundNow (m : Nat) (b : Nat) (x : Int32) (I : ow_I) : Int32 × ow_I :=
  if nI 99999 - (M_of m b 0 I) ≤ x then lt (M_put m b 0 (M_of m b 0 I + (nI 99999 - (M_of m b 0 I))) I) (fun (I1 : ow_I) => lt (ow_u I1 (m + 1) 15 (I1 (m + 1) 15 + (nI 99999 - (M_of m b 0 I)))) (fun (I2 : ow_I) => (M_of m b 0 I2, I2))) else lt (M_put m b 0 (M_of m b 0 I + x) I) (fun (I3 : ow_I) => lt (ow_u I3 (m + 1) 15 (I3 (m + 1) 15 + x)) (fun (I4 : ow_I) => (M_of m b 0 I4, I4)))
def M_keep (m : Nat) (b : Nat) (I : ow_I) : ow_I :=
  if tn (I m 2) = 8 then lt (ow_u I m 1 (nI ((tn (I m 1) + 1) % 8))) (fun (I3 : ow_I) => lt (M_copyBlock m b (1 + ((((tn (I m 1) + 1) % 8 + (tn (I m 2))) - 1) % 8)) I3) (fun (I4 : ow_I) => I4)) else lt (ow_u I m 2 (nI (tn (I m 2) + 1))) (fun (I1 : ow_I) => lt (M_copyBlock m b (1 + (((tn (I m 1) + (tn (I m 2) + 1)) - 1) % 8)) I1) (fun (I2 : ow_I) => I2))
end
section
theorem sh8 {c : Nat} (h : 1 ≤ c) : nI (8 * c) - 8 + Int32.ofInt (-8) = nI (8 * (c - 1)) - 8 := by
  obtain ⟨d, rfl⟩ : ∃ d, c = d + 1 := ⟨c - 1, by omega⟩
  rw [show 8 * (d + 1) = 8 * d + 8 by omega, ← nI_add, show nI 8 = (8 : Int32) from rfl, show d + 1 - 1 = d by omega, Int32.add_sub_cancel, Int32.sub_eq_add_neg]
  rfl
theorem sh8_c {c : Nat} {s : Int32} (hs : s = nI (8 * c) - 8) (h : ¬ s < 0) : 1 ≤ c := by
  rcases Nat.eq_zero_or_pos c with z | z
  · exact absurd (by rw [hs, z]; decide) h
  · exact z
def M_appendWord_L3 (m : Nat) (w : Int32) : Nat → ow_I → Int32 → ow_I
  | 0, I, _ => I
  | n + 1, I, s => if s < 0 then I else lt (ow_u I (m + 3) (tn (I m 5)) (((w >>> (s &&& 31)).toInt8.toInt32).toInt8.toInt32)) (fun (I1 : ow_I) => lt (ow_u I1 m 5 (I1 m 5 + (nI 1))) (fun (I2 : ow_I) => M_appendWord_L3 m w n I2 (s + Int32.ofInt (-8))))
def M_appendWord (m : Nat) (w : Int32) (I : ow_I) : ow_I :=
  M_appendWord_L3 m w 5 I (nI 24)
def M_byteAt (m : Nat) (i : Nat) (I : ow_I) : Int32 :=
  if tn (I m 5) ≤ i then (-1000) else I (m + 3) i
def M_isLetter (m : Nat) (i : Nat) (I : ow_I) : Bool :=
  M_in (M_byteAt m i I) (nI 97) (nI 122) I
def M_isDigit (m : Nat) (i : Nat) (I : ow_I) : Bool :=
  M_in (M_byteAt m i I) (nI 48) (nI 57) I
end
