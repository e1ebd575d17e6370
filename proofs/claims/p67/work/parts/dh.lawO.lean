/-! FOUR LETTERS IN A WORD -/
theorem or_ior {X : ow_X} {cs sl : Nat} {h : ow_H} {pc : Nat} {lv : List (Nat × Value)} {st : List Value} {own : String} {cc : ByteArray} {nL : Nat} {R0 : Room} {x y : Int32} (E : ow_E X own cc nL R0) (d : decode cc pc = .ok (.ior, 1)) (k : ow_W X cs sl h (pc + 1) lv (.int (x ||| y) :: st)) : ow_W X cs sl h pc lv (.int y :: .int x :: st) := by
  obtain ⟨p, l, e, R, s, m, args, below, meth, c, Q, D, A⟩ := X
  obtain ⟨hx, hb, hown, hts, hK, hA, hml, hR0⟩ := E
  intro H locs ls hR hD hSS hl
  exact lv_ior hx hb d (k H locs ls hR hD hSS hl)
theorem nI_bv (n : Nat) : (nI n).toBitVec = BitVec.ofNat 32 n := Int32.toBitVec_ofNat'
theorem nI_or (a b : Nat) : nI a ||| nI b = nI (a ||| b) := by
  apply Int32.toBitVec_inj.mp
  rw [Int32.toBitVec_or, nI_bv, nI_bv, nI_bv]
  apply BitVec.eq_of_toNat_eq
  simp [Nat.or_mod_two_pow]
theorem nI_shl (v c : Nat) (hc : c < 32) : nI v <<< (nI c &&& 31) = nI (v * 2 ^ c) := by
  have e : nI c &&& 31 = nI c := (by decide +kernel : ∀ c, c < 32 → nI c &&& 31 = nI c) c hc
  rw [e]
  apply Int32.toBitVec_inj.mp
  rw [Int32.toBitVec_shiftLeft, nI_bv, nI_bv, nI_bv]
  have e2 : (BitVec.ofNat 32 c).smod 32 = BitVec.ofNat 32 c := (by decide +kernel : ∀ c, c < 32 → (BitVec.ofNat 32 c).smod 32 = BitVec.ofNat 32 c) c hc
  rw [e2]
  apply BitVec.eq_of_toNat_eq
  rw [BitVec.shiftLeft_eq']
  simp [Nat.shiftLeft_eq, Nat.mod_eq_of_lt (show c < 2 ^ 32 by omega)]
theorem nI_byt (N c : Nat) (hN : N < 2 ^ 31) (hc : c < 32) : (((nI N).toUInt32 >>> ((nI c).toUInt32 &&& Int32.toUInt32 31)).toInt32) &&& nI 255 = nI (N / 2 ^ c % 256) := by
  have e : (nI c).toUInt32 &&& Int32.toUInt32 31 = UInt32.ofNat c := (by decide +kernel : ∀ c, c < 32 → (nI c).toUInt32 &&& Int32.toUInt32 31 = UInt32.ofNat c) c hc
  rw [e]
  have e1 : (nI N).toUInt32 = UInt32.ofNat N := rfl
  rw [e1]
  have e2 : (UInt32.ofNat N >>> UInt32.ofNat c).toInt32 = nI (N / 2 ^ c) := by
    apply Int32.toBitVec_inj.mp
    rw [nI_bv]
    show (UInt32.ofNat N >>> UInt32.ofNat c).toBitVec = _
    apply BitVec.eq_of_toNat_eq
    show (UInt32.ofNat N >>> UInt32.ofNat c).toNat = _
    rw [UInt32.toNat_shiftRight]
    rw [UInt32.toNat_ofNat', UInt32.toNat_ofNat', Nat.mod_eq_of_lt (show N < 2 ^ 32 by omega), Nat.mod_eq_of_lt (show c < 2 ^ 32 by omega), Nat.mod_eq_of_lt hc, Nat.shiftRight_eq_div_pow, BitVec.toNat_ofNat]
    have := Nat.div_le_self N (2 ^ c)
    rw [Nat.mod_eq_of_lt (by omega)]
  rw [e2]
  apply Int32.toBitVec_inj.mp
  rw [Int32.toBitVec_and, nI_bv, nI_bv, nI_bv]
  apply BitVec.eq_of_toNat_eq
  rw [BitVec.toNat_and, BitVec.toNat_ofNat, BitVec.toNat_ofNat, BitVec.toNat_ofNat, show 255 % 2 ^ 32 = 2 ^ 8 - 1 by decide, Nat.and_two_pow_sub_one_eq_mod]
  have := Nat.div_le_self N (2 ^ c)
  rw [Nat.mod_eq_of_lt (show N / 2 ^ c < 2 ^ 32 by omega)]
  omega
/-- a text, and noughts behind it -/
def tx (t : Nat → Nat) (n : Nat) : Nat → Nat := fun i => if i < n then t i else 0
def wv (T : Nat → Nat) (s : Nat) : Nat → Nat
  | 0 => 0
  | r + 1 => wv T s r + T (s + r) * 2 ^ (24 - 8 * r)
theorem wv_or {T : Nat → Nat} (hT : ∀ i, T i < 128) (s : Nat) : ∀ r, r < 4 → nI (wv T s r) ||| nI (T (s + r) * 2 ^ (24 - 8 * r)) = nI (wv T s (r + 1)) := by
  intro r hr
  rw [nI_or]
  congr 1
  show _ = wv T s r + T (s + r) * 2 ^ (24 - 8 * r)
  have h0 := hT (s + 0); have h1 := hT (s + 1); have h2 := hT (s + 2); have h3 := hT (s + 3)
  have key : ∀ (i a b c : Nat), c = 2 ^ i * a → b < 2 ^ i → c ||| b = c + b := fun i a b c e hb => by rw [e]; exact (Nat.two_pow_add_eq_or_of_lt hb a).symm
  match r, hr with
  | 0, _ => exact key 31 0 _ _ rfl (by omega)
  | 1, _ => exact key 24 (T (s + 0)) _ _ (by simp only [wv]; omega) (by omega)
  | 2, _ => exact key 16 (T (s + 0) * 256 + T (s + 1)) _ _ (by simp only [wv]; omega) (by omega)
  | 3, _ => exact key 8 (T (s + 0) * 65536 + T (s + 1) * 256 + T (s + 2)) _ _ (by simp only [wv]; omega) (by omega)
theorem wv_lt {T : Nat → Nat} (hT : ∀ i, T i < 128) (s : Nat) : wv T s 4 < 2 ^ 31 := by
  have h0 := hT (s + 0); have h1 := hT (s + 1); have h2 := hT (s + 2); have h3 := hT (s + 3)
  simp only [wv]
  omega
theorem wv_by {T : Nat → Nat} (hT : ∀ i, T i < 128) (s : Nat) : ∀ r, r < 4 → wv T s 4 / 2 ^ (24 - 8 * r) % 256 = T (s + r) := by
  intro r hr
  have h0 := hT (s + 0); have h1 := hT (s + 1); have h2 := hT (s + 2); have h3 := hT (s + 3)
  simp only [wv]
  match r, hr with
  | 0, _ => omega
  | 1, _ => omega
  | 2, _ => omega
  | 3, _ => omega
theorem wv_all {T : Nat → Nat} {s m : Nat} (h : ∀ i, s + m ≤ i → T i = 0) : ∀ d, wv T s (m + d) = wv T s m := by
  intro d
  induction d with
  | zero => rfl
  | succ d ih =>
    show wv T s (m + d) + T (s + (m + d)) * _ = _
    rw [h _ (by omega), ih, Nat.zero_mul, Nat.add_zero]
/-- letters put behind the input -/
def ad (u : Nat) (T : Nat → Nat) (n0 s m : Nat) (I J : ow_I) : Prop := J u 1 = nI (n0 + m) ∧ (∀ k, k ≠ 1 → J u k = I u k) ∧ (∀ i, i < n0 → J (u + 1) i = I (u + 1) i) ∧ (∀ r, r < m → J (u + 1) (n0 + r) = nI (T (s + r))) ∧ ∀ a, a ≠ u → a ≠ u + 1 → J a = I a
theorem ad.tr {u n0 s m m' : Nat} {T : Nat → Nat} {I J K : ow_I} (p : ad u T n0 s m I J) (q : ad u T (n0 + m) (s + m) m' J K) : ad u T n0 s (m + m') I K := by
  obtain ⟨p1, p2, p3, p4, p5⟩ := p
  obtain ⟨q1, q2, q3, q4, q5⟩ := q
  refine ⟨by rw [q1]; congr 1; omega, fun k hk => (q2 k hk).trans (p2 k hk), fun i hi => (q3 i (by omega)).trans (p3 i hi), fun r hr => ?_, fun a h1 h2 => (q5 a h1 h2).trans (p5 a h1 h2)⟩
  by_cases e : r < m
  · rw [q3 (n0 + r) (by omega)]; exact p4 r e
  · have := q4 (r - m) (by omega)
    rw [show n0 + m + (r - m) = n0 + r by omega, show s + m + (r - m) = s + r by omega] at this
    exact this
theorem ad_1 {u n0 s : Nat} {T : Nat → Nat} {I : ow_I} (h : I u 1 = nI n0) (hn : n0 < 500) : ad u T n0 s 1 I (U_addByte u (nI (T s)) I) := by
  have ht : tn (I u 1) = n0 := by rw [h, tn_nI (by omega)]
  unfold U_addByte
  rw [if_neg (by omega)]
  simp only [lt]
  rw [ht]
  refine ⟨?_, fun k hk => ?_, fun i hi => ?_, fun r hr => ?_, fun a h1 h2 => ?_⟩
  · rw [ow_u_s, ow_u_a _ _ _ _ (by omega), h, nI_add]
  · rw [ow_u_k _ _ _ _ hk, ow_u_a _ _ _ _ (by omega)]
  · rw [ow_u_a _ _ _ _ (by omega), ow_u_k _ _ _ _ (by omega)]
  · have hr0 : r = 0 := by omega
    subst hr0
    rw [ow_u_a _ _ _ _ (by omega)]
    exact ow_u_s _ _ _ _
  · funext k
    rw [ow_u_a _ _ _ _ h1, ow_u_a _ _ _ _ h2]
theorem ad_4 {u n0 s : Nat} {T : Nat → Nat} {I : ow_I} (hT : ∀ i, T i < 128) (h : I u 1 = nI n0) (hn : n0 + 4 ≤ 500) : ad u T n0 s 4 I (U_addFour u (nI (wv T s 4)) I) := by
  have hw := wv_lt hT s
  have b0 := (nI_byt (wv T s 4) 24 hw (by decide)).trans (congrArg nI (wv_by hT s 0 (by decide)))
  have b1 := (nI_byt (wv T s 4) 16 hw (by decide)).trans (congrArg nI (wv_by hT s 1 (by decide)))
  have b2 := (nI_byt (wv T s 4) 8 hw (by decide)).trans (congrArg nI (wv_by hT s 2 (by decide)))
  have b3 := (nI_byt (wv T s 4) 0 hw (by decide)).trans (congrArg nI (wv_by hT s 3 (by decide)))
  unfold U_addFour
  simp only [U_addFour_L3, lt]
  rw [show nI 24 + Int32.ofInt (-8) = nI 16 by decide, show nI 16 + Int32.ofInt (-8) = nI 8 by decide, show nI 8 + Int32.ofInt (-8) = nI 0 by decide, show nI 0 + Int32.ofInt (-8) = -8 by decide]
  rw [if_neg (show ¬ nI 24 < 0 by decide), if_neg (show ¬ nI 16 < 0 by decide), if_neg (show ¬ nI 8 < 0 by decide), if_neg (show ¬ nI 0 < 0 by decide), if_pos (show (-8 : Int32) < 0 by decide)]
  rw [b0, b1, b2, b3]
  have a0 := ad_1 (T := T) (s := s + 0) h (by omega)
  have a1 := ad_1 (T := T) (s := s + 1) a0.1 (by omega)
  have a2 := ad_1 (T := T) (s := s + 2) a1.1 (by omega)
  have a3 := ad_1 (T := T) (s := s + 3) a2.1 (by omega)
  exact ((a0.tr a1).tr a2).tr a3
theorem ad_20 {x n0 s : Nat} {T : Nat → Nat} {I : ow_I} (hT : ∀ i, T i < 128) (h : I (x + 515 + 1) 1 = nI n0) (hn : n0 + 20 ≤ 500) : ad (x + 515 + 1) T n0 s 20 I (A_append x (nI (wv T s 4)) (nI (wv T (s + 4) 4)) (nI (wv T (s + 8) 4)) (nI (wv T (s + 12) 4)) (nI (wv T (s + 16) 4)) I).2 := by
  unfold A_append
  simp only [lt]
  have a0 := ad_4 (T := T) (s := s) hT h (by omega)
  have a1 := ad_4 (T := T) (s := s + 4) hT a0.1 (by omega)
  have a2 := ad_4 (T := T) (s := s + 8) hT a1.1 (by omega)
  have a3 := ad_4 (T := T) (s := s + 12) hT a2.1 (by omega)
  have a4 := ad_4 (T := T) (s := s + 16) hT a3.1 (by omega)
  exact (((a0.tr a1).tr a2).tr a3).tr a4
theorem ad_V {x n0 m s : Nat} {T : Nat → Nat} {I J : ow_I} (hX : au_V x I) (p : ad (x + 515 + 1) T n0 s m I J) (hn : n0 + m ≤ 500) : au_V x J := by
  obtain ⟨p1, p2, p3, p4, p5⟩ := p
  obtain ⟨h1, h2, h3, h4, h5, h6⟩ := hX
  have e : ∀ a, a < x + 516 ∨ x + 518 ≤ a → J a = I a := fun a ha => p5 a (by omega) (by omega)
  refine ⟨kV_eq h1 (fun a g1 g2 => e a (by omega)), kV_eq h2 (fun a g1 g2 => e a (by omega)), fun i hi => kV_eq (h3 i hi) (fun a g1 g2 => e a (by omega)), fun i hi => kV_eq (h4 i hi) (fun a g1 g2 => e a (by omega)), ?_, ?_⟩
  · rw [e (x + 103) (by omega)]; exact h5
  · obtain ⟨q1, q2, q3⟩ := h6
    refine ⟨?_, ?_, ?_⟩
    · rw [p1, tn_nI (by omega)]; exact ⟨nI_ge0 (by omega), hn⟩
    · rw [p2 3 (by decide)]; exact q2
    · rw [p2 4 (by decide)]; exact q3
