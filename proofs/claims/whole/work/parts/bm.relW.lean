/-! THE INPUT: both hold one text -/
theorem by255 : ∀ j : Fin 8, (255#8)[j.val] = true := by decide
theorem by_lo (x : Int32) : ∃ y : Nat, y < 256 ∧ (x &&& nI 255) = nI y ∧ x.toInt8 = (nI y).toInt8 := by
  refine ⟨(x.toBitVec &&& 255#32).toNat, ?_, ?_, ?_⟩
  · rw [BitVec.toNat_and]
    exact Nat.lt_of_le_of_lt Nat.and_le_right (by decide)
  · apply Int32.toBitVec_inj.mp
    simp [nI]
  · apply Int8.toBitVec_inj.mp
    simp [nI]
    ext i hi
    simp [BitVec.getElem_signExtend]
    have h1 : i < 32 := by omega
    have h2 : (255#8)[i] = true := by255 ⟨i, hi⟩
    rw [dif_pos h1, h2, Bool.and_true, BitVec.getLsbD_eq_getElem h1]
theorem by_k (w : Int32) (k : Nat) (hk : k ≤ 24) (e : ((nI k) &&& 31) = nI k) (e2 : (nI k).toBitVec.smod 32 = BitVec.ofNat 32 k) (e3 : ((nI k).toUInt32 &&& Int32.toUInt32 31).toBitVec % 32 = BitVec.ofNat 32 k) : (w >>> ((nI k) &&& 31)).toInt8 = ((w.toUInt32 >>> ((nI k).toUInt32 &&& Int32.toUInt32 31)).toInt32).toInt8 := by
  apply Int8.toBitVec_inj.mp
  rw [e, Int32.toBitVec_toInt8, Int32.toBitVec_toInt8, Int32.toBitVec_shiftRight, UInt32.toBitVec_toInt32, UInt32.toBitVec_shiftRight, e2, e3]
  ext i hi
  have h0 : i + k < 32 := by omega
  have h1 : i < 32 := by omega
  simp [BitVec.getElem_signExtend]
  rw [dif_pos h1, if_pos h1, Nat.mod_eq_of_lt (show k < 4294967296 by omega), ← BitVec.getLsbD_eq_getElem h1, BitVec.getLsbD_sshiftRight, if_pos (by omega)]
  simp [h1]
theorem by_kk (w : Int32) (k : Nat) (hk : k = 24 ∨ k = 16 ∨ k = 8 ∨ k = 0) : (w >>> ((nI k) &&& 31)).toInt8 = ((w.toUInt32 >>> ((nI k).toUInt32 &&& Int32.toUInt32 31)).toInt32).toInt8 := by
  rcases hk with rfl | rfl | rfl | rfl
  · exact by_k w 24 (by decide) (by decide) (by decide) (by decide)
  · exact by_k w 16 (by decide) (by decide) (by decide) (by decide)
  · exact by_k w 8 (by decide) (by decide) (by decide) (by decide)
  · exact by_k w 0 (by decide) (by decide) (by decide) (by decide)
/-- both hold one text of n bytes -/
def tx (u m : Nat) (I J : ow_I) (n : Nat) : Prop := I u 1 = nI n ∧ J m 5 = nI n ∧ n ≤ 500 ∧ ∀ i, i < n → ∃ y : Nat, y < 256 ∧ I (u + 1) i = nI y ∧ J (m + 3) i = (nI y).toInt8.toInt32
/-- only the text grew -/
def txF (u m : Nat) (I J I' J' : ow_I) : Prop := (∀ b, b ≠ u → b ≠ u + 1 → I' b = I b) ∧ (∀ j, j ≠ 1 → I' u j = I u j) ∧ (∀ b, b ≠ m → b ≠ m + 3 → J' b = J b) ∧ ∀ j, j ≠ 5 → J' m j = J m j
section TXA
variable {u m n : Nat} {I J I' J' I2 J2 : ow_I}
theorem txF_t (h : txF u m I J I' J') (g : txF u m I' J' I2 J2) : txF u m I J I2 J2 := ⟨fun b h1 h2 => (g.1 b h1 h2).trans (h.1 b h1 h2), fun j hj => (g.2.1 j hj).trans (h.2.1 j hj), fun b h1 h2 => (g.2.2.1 b h1 h2).trans (h.2.2.1 b h1 h2), fun j hj => (g.2.2.2 j hj).trans (h.2.2.2 j hj)⟩
theorem tx_add {y : Nat} (h : tx u m I J n) (hn : n < 500) (hy : y < 256) : tx u m (U_addByte u (nI y) I) (ow_u (ow_u J (m + 3) (tn (J m 5)) ((nI y).toInt8.toInt32)) m 5 (ow_u J (m + 3) (tn (J m 5)) ((nI y).toInt8.toInt32) m 5 + nI 1)) (n + 1) ∧ txF u m I J (U_addByte u (nI y) I) (ow_u (ow_u J (m + 3) (tn (J m 5)) ((nI y).toInt8.toInt32)) m 5 (ow_u J (m + 3) (tn (J m 5)) ((nI y).toInt8.toInt32) m 5 + nI 1)) := by
  obtain ⟨h1, h2, h3, h4⟩ := h
  have t1 : tn (I u 1) = n := by rw [h1, tn_nI (by omega)]
  have t2 : tn (J m 5) = n := by rw [h2, tn_nI (by omega)]
  unfold U_addByte
  rw [t1, t2, if_neg (by omega), lt_eq, lt_eq]
  refine ⟨⟨?_, ?_, by omega, fun i hi => ?_⟩, fun b z1 z2 => by rw [rr_u z1, rr_u z2], fun j hj => by rw [u_one, if_neg hj, rr_u (by omega)], fun b z1 z2 => by rw [rr_u z1, rr_u z2], fun j hj => by rw [u_one, if_neg hj, rr_u (by omega)]⟩
  · rw [ow_u_s, rr_u (by omega), h1, nI_add]
  · rw [ow_u_s, rr_u (by omega), h2, nI_add]
  · rw [rr_u (by omega), u_one, rr_u (by omega), u_one]
    by_cases c : i = n
    · rw [if_pos c, if_pos c]
      exact ⟨y, hy, rfl, rfl⟩
    · rw [if_neg c, if_neg c]
      exact h4 i (by omega)
theorem tx_by {w s : Int32} {k : Nat} (h : tx u m I J n) (hn : n < 500) (hs : s = nI k) (hk : k = 24 ∨ k = 16 ∨ k = 8 ∨ k = 0) : tx u m (U_addByte u (((w.toUInt32 >>> (s.toUInt32 &&& Int32.toUInt32 31)).toInt32) &&& (nI 255)) I) (ow_u (ow_u J (m + 3) (tn (J m 5)) (((w >>> (s &&& 31)).toInt8.toInt32).toInt8.toInt32)) m 5 (ow_u J (m + 3) (tn (J m 5)) (((w >>> (s &&& 31)).toInt8.toInt32).toInt8.toInt32) m 5 + nI 1)) (n + 1) ∧ txF u m I J (U_addByte u (((w.toUInt32 >>> (s.toUInt32 &&& Int32.toUInt32 31)).toInt32) &&& (nI 255)) I) (ow_u (ow_u J (m + 3) (tn (J m 5)) (((w >>> (s &&& 31)).toInt8.toInt32).toInt8.toInt32)) m 5 (ow_u J (m + 3) (tn (J m 5)) (((w >>> (s &&& 31)).toInt8.toInt32).toInt8.toInt32) m 5 + nI 1)) := by
  obtain ⟨y, hy, e1, e2⟩ := by_lo ((w.toUInt32 >>> (s.toUInt32 &&& Int32.toUInt32 31)).toInt32)
  rw [Int8.toInt8_toInt32]
  rw [hs] at e1 e2 ⊢
  rw [e1, by_kk w k hk, e2]
  exact tx_add h hn hy
theorem tx_four {w : Int32} (h : tx u m I J n) (hn : n + 4 ≤ 500) : tx u m (U_addFour u w I) (M_appendWord m w J) (n + 4) ∧ txF u m I J (U_addFour u w I) (M_appendWord m w J) := by
  obtain ⟨a1, b1⟩ := tx_by (w := w) (s := nI 24) (k := 24) h (by omega) rfl (by decide)
  obtain ⟨a2, b2⟩ := tx_by (w := w) (s := nI 24 + Int32.ofInt (-8)) (k := 16) a1 (by omega) (by decide) (by decide)
  obtain ⟨a3, b3⟩ := tx_by (w := w) (s := nI 24 + Int32.ofInt (-8) + Int32.ofInt (-8)) (k := 8) a2 (by omega) (by decide) (by decide)
  obtain ⟨a4, b4⟩ := tx_by (w := w) (s := nI 24 + Int32.ofInt (-8) + Int32.ofInt (-8) + Int32.ofInt (-8)) (k := 0) a3 (by omega) (by decide) (by decide)
  simp only [U_addFour, M_appendWord, U_addFour_L3, M_appendWord_L3, lt_eq]
  rw [if_neg (show ¬ nI 24 < 0 by decide), if_neg (show ¬ nI 24 + Int32.ofInt (-8) < 0 by decide), if_neg (show ¬ nI 24 + Int32.ofInt (-8) + Int32.ofInt (-8) < 0 by decide), if_neg (show ¬ nI 24 + Int32.ofInt (-8) + Int32.ofInt (-8) + Int32.ofInt (-8) < 0 by decide), if_pos (show nI 24 + Int32.ofInt (-8) + Int32.ofInt (-8) + Int32.ofInt (-8) + Int32.ofInt (-8) < 0 by decide)]
  rw [if_neg (show ¬ nI 24 < 0 by decide), if_neg (show ¬ nI 24 + Int32.ofInt (-8) < 0 by decide), if_neg (show ¬ nI 24 + Int32.ofInt (-8) + Int32.ofInt (-8) < 0 by decide), if_neg (show ¬ nI 24 + Int32.ofInt (-8) + Int32.ofInt (-8) + Int32.ofInt (-8) < 0 by decide), if_pos (show nI 24 + Int32.ofInt (-8) + Int32.ofInt (-8) + Int32.ofInt (-8) + Int32.ofInt (-8) < 0 by decide)]
  exact ⟨a4, txF_t b1 (txF_t b2 (txF_t b3 b4))⟩
end TXA
section RRI
variable {x m B : Nat} {I I' J J' : ow_I}
theorem RR_in (h : RR x m B I J) (g : RI x m I' J') (f : txF (x + 515 + 1) m I J I' J') : RR x m B I' J' := by
  obtain ⟨⟨h1, h2⟩, h3, h4, h5, h6, h7, h8⟩ := h
  obtain ⟨f1, f2, f3, f4⟩ := f
  obtain ⟨n, g1, g2, g3, g4⟩ := id g
  refine ⟨⟨⟨kV_eq h1.1 (fun b z1 z2 => f1 b (by omega) (by omega)), kV_eq h1.2.1 (fun b z1 z2 => f1 b (by omega) (by omega)), fun i hi => kV_eq (h1.2.2.1 i hi) (fun b z1 z2 => f1 b (by omega) (by omega)), fun i hi => kV_eq (h1.2.2.2.1 i hi) (fun b z1 z2 => f1 b (by omega) (by omega)), by rw [f1 (x + 103) (by omega) (by omega)]; exact h1.2.2.2.2.1, ⟨by rw [g1, tn_nI (by omega)]; exact ⟨nI_ge0 (by omega), g3⟩, by rw [f2 3 (by omega)]; exact h1.2.2.2.2.2.2.1, by rw [f2 4 (by omega)]; exact h1.2.2.2.2.2.2.2⟩⟩, cm_row h2 (f1 _ (by omega) (by omega)) (fun i hi => f1 _ (by omega) (by omega))⟩, st_of h3 (Nat.le_refl _) (fun b z1 z2 => f1 b (by omega) (by omega)) (fun j _ => by rw [f3 _ (by omega) (by omega)]), RH_of h4 (Nat.le_refl _) (fun b z1 z2 => f1 b (by omega) (by omega)) (f4 1 (by omega)) (f4 2 (by omega)) (fun j _ _ => by rw [f3 _ (by omega) (by omega)]), RS_of h5 (Nat.le_refl _) (fun b z => f1 b (by omega) (by omega)) (f3 _ (by omega) (by omega)) (fun j _ _ => by rw [f3 _ (by omega) (by omega)]), g, RE_of h7 (f1 _ (by omega) (by omega)) (f4 6 (by omega)) (f4 7 (by omega)), RW_of h8 (f3 _ (by omega) (by omega))⟩
theorem r_append {a b c d e : Int32} (h : RR x m B I J) : an x m B [2] (A_append x a b c d e I).1 (A_append x a b c d e I).2.1 (M_append m a b c d e J).1 (A_append x a b c d e I).2.2 (M_append m a b c d e J).2 := by
  have h1 := RR_18 (y := nI 0) h
  have z18 : ow_u J m 18 (nI 0) m 18 = nI 0 := ow_u_s _ _ _ _
  have e5 : J m 5 = ow_u J m 18 (nI 0) m 5 := by rw [u_one, if_neg (by decide)]
  simp only [A_append, M_append, lt_eq]
  rw [e5]
  generalize ow_u J m 18 (nI 0) = J1 at h1 z18 ⊢
  obtain ⟨n, g1, g2, g3, g4⟩ := id h1.2.2.2.2.1
  have ht : tx (x + 515 + 1) m I J1 n := ⟨g1, g2, g3, g4⟩
  rw [g1, g2, tn_nI (by omega), nI_add]
  by_cases q : n + 20 ≤ 500
  · rw [if_pos q, if_pos ((nI_leI (by omega) (by decide)).mpr q)]
    obtain ⟨a1, b1⟩ := tx_four (w := a) ht (by omega)
    obtain ⟨a2, b2⟩ := tx_four (w := b) a1 (by omega)
    obtain ⟨a3, b3⟩ := tx_four (w := c) a2 (by omega)
    obtain ⟨a4, b4⟩ := tx_four (w := d) a3 (by omega)
    obtain ⟨a5, b5⟩ := tx_four (w := e) a4 (by omega)
    have f := txF_t b1 (txF_t b2 (txF_t b3 (txF_t b4 b5)))
    dsimp only
    refine ⟨RR_in h1 ⟨_, a5⟩ f, ?_, fun _ => a5.1.trans a5.2.1.symm⟩
    rw [f.2.2.2 18 (by omega), z18]
    rfl
  · rw [if_neg q, if_neg (fun z => q ((nI_leI (by omega) (by decide)).mp z))]
    exact ⟨RR_18 h1, ow_u_s _ _ _ _, fun z => ns0 z⟩
theorem r_truncate {t : Int32} (h : RR x m B I J) : an x m B [1] (A_truncate x t I).1 (A_truncate x t I).2.1 (M_truncate m t J).1 (A_truncate x t I).2.2 (M_truncate m t J).2 := by
  have h1 := RR_18 (y := nI 0) h
  have z18 : ow_u J m 18 (nI 0) m 18 = nI 0 := ow_u_s _ _ _ _
  simp only [A_truncate, M_truncate, lt_eq]
  generalize ow_u J m 18 (nI 0) = J1 at h1 z18 ⊢
  obtain ⟨n, g1, g2, g3, g4⟩ := id h1.2.2.2.2.1
  rw [g1, g2]
  rcases rng_or (v := t) (lo := nI 0) (hi := nI n) (I := I) (J := J1) with ⟨p1, p2, p3, p4⟩ | ⟨p1, p2⟩
  · simp only [p1, p2, if_true]
    obtain ⟨y, hy, rfl⟩ := nI_ex (show 0 ≤ t from p3) (tn_lt t)
    have hs := (nI_leI hy (by omega)).mp p4
    have f : txF (x + 515 + 1) m I J1 (ow_u I (x + 515 + 1) 1 (nI y)) (ow_u J1 m 5 (nI y)) := ⟨fun b z1 z2 => rr_u z1, fun j hj => by rw [u_one, if_neg hj], fun b z1 z2 => rr_u z1, fun j hj => by rw [u_one, if_neg hj]⟩
    refine ⟨RR_in h1 ⟨y, ow_u_s _ _ _ _, ow_u_s _ _ _ _, by omega, fun i hi => ?_⟩ f, ?_, fun _ => (ow_u_s _ _ _ _).symm⟩
    · rw [rr_u (by omega), rr_u (by omega)]
      exact g4 i (by omega)
    · rw [f.2.2.2 18 (by omega), z18]
      rfl
  · simp only [p1, p2]
    rw [if_neg (show ¬ (1 : Nat) = 0 by decide), if_neg (show ¬ false = true by decide)]
    exact ⟨RR_18 h1, ow_u_s _ _ _ _, fun z => ns0 z⟩
end RRI
