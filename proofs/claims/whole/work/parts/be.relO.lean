/-! a state is kept before a change -/
section RRB
variable {x m B B' : Nat} {I I' J J' : ow_I}
theorem kVn (h : k_V (x + 1) I) : tn (I (x + 1) 8) ≤ 6 ∧ tn (I (x + 1) 10) ≤ 20 := ⟨h.1.2, h.2.1.2⟩
theorem rem_eq {o k : Nat} (h1 : I (x + 103) 1 = nI ((o + k) % 8)) : H_remember (x + 103) (x + 1) I = ow_u (ow_u (K_copyFrom (x + 103 + 2 + 51 * ((o + k) % 8)) (x + 1) I) (x + 103) 1 (nI (((o + k) % 8 + 1) % 8))) (x + 103) 2 (i_min (ow_u (K_copyFrom (x + 103 + 2 + 51 * ((o + k) % 8)) (x + 1) I) (x + 103) 1 (nI (((o + k) % 8 + 1) % 8)) (x + 103) 2 + nI 1) (nI 8)) := by
  have hm : (o + k) % 8 < 8 := Nat.mod_lt _ (by decide)
  have ht : tn (I (x + 103) 1) = (o + k) % 8 := by rw [h1, tn_nI (by omega)]
  unfold H_remember
  rw [ht, lt_eq, lt_eq, lt_eq]
theorem au_rem (hX : au_V x I) : au_V x (H_remember (x + 103) (x + 1) I) := by
  obtain ⟨a1, a2, a3, a4, ⟨a5, a6⟩, a7⟩ := hX
  have hX : au_V x I := ⟨a1, a2, a3, a4, ⟨a5, a6⟩, a7⟩
  have hm : tn (I (x + 103) 1) = (tn (I (x + 103) 1) + 0) % 8 := by omega
  have h1 : I (x + 103) 1 = nI ((tn (I (x + 103) 1) + 0) % 8) := by rw [← hm, nI_tn a5]
  have e := rem_eq h1
  generalize hn : (tn (I (x + 103) 1) + 0) % 8 = n at e hm
  have hr : ∀ b, (b < x + 103 + 2 + 51 * n ∨ x + 103 + 2 + 51 * n + 51 ≤ b) → b ≠ x + 103 → H_remember (x + 103) (x + 1) I b = I b := fun b g1 g2 => by
    rw [e, rr_u g2, rr_u g2, rr_kcp g1 (by omega) (kVn a1).1 (kVn a1).2]
  refine ⟨kV_rem hX, kV_eq a2 (fun b g1 g2 => hr b (by omega) (by omega)), fun i hi => ?_, fun i hi => kV_eq (a4 i hi) (fun b g1 g2 => hr b (by omega) (by omega)), ?_, in_row a7 (hr _ (by omega) (by omega))⟩
  · by_cases d : i = n
    · rw [d]
      have hc := kV_cp (a := x + 103 + 2 + 51 * n) a1 (a3 n (by omega)) (by omega)
      refine kV_eq hc (fun b g1 g2 => ?_)
      rw [e, rr_u (by omega), rr_u (by omega)]
    · exact kV_eq (a3 i hi) (fun b g1 g2 => hr b (by omega) (by omega))
  · rw [e, u_one, if_neg (by decide), ow_u_s, tn_nI (by omega)]
    exact ⟨nI_ge0 (by omega), Nat.mod_lt _ (by decide)⟩
theorem RH_rem {b : Nat} (h : RH x m B I J) (hX : au_V x I) (hb : b = 0 ∨ 9 ≤ b) (hb12 : b ≤ 12) (hm : rlv B (x + 1) I (blk m J b)) : RH x m B (H_remember (x + 103) (x + 1) I) (M_keep m b J) := by
  obtain ⟨o, k, h1, h2, h3, h4, h5, h6, h7⟩ := h
  have ho : 0 ≤ J m 1 := by rw [h1]; exact nI_ge0 (by omega)
  have hk : 0 ≤ J m 2 := by rw [h3]; exact nI_ge0 (by omega)
  have t1 : tn (J m 1) = o := by rw [h1, tn_nI (by omega)]
  have t2 : tn (J m 2) = k := by rw [h3, tn_nI (by omega)]
  obtain ⟨J0, e0, e1, e2, e3, e4⟩ := keep_eq (b := b) ho hk
  have hc := fun j => keep_cells ho hk hb j
  have hco := hc
  rw [t1, t2] at e0 e3 hc
  rw [t2] at e4
  have ek1 : M_keep m b J m 1 = nI (kp_o o k) := by rw [e0, rr_cb (by omega), e3]
  have ek2 : M_keep m b J m 2 = nI (kp_k k) := by rw [e0, rr_cb (by omega), e4]
  have hkt : kp_t o k = 1 + (o + k) % 8 := by
    unfold kp_t kp_o kp_k
    by_cases d : k = 8
    · rw [if_pos d, if_pos d]; omega
    · rw [if_neg d, if_neg d]; omega
  have hkn : (kp_o o k + kp_k k) % 8 = ((o + k) % 8 + 1) % 8 := by
    unfold kp_o kp_k
    by_cases d : k = 8
    · rw [if_pos d, if_pos d]; omega
    · rw [if_neg d, if_neg d]; omega
  have hkk : kp_k k ≤ 8 := by
    unfold kp_k
    split <;> omega
  have hko : kp_o o k < 8 := by
    unfold kp_o
    split <;> omega
  rw [hkt] at hc
  have hn8 : (o + k) % 8 < 8 := Nat.mod_lt _ (by decide)
  have e := rem_eq h6
  have hr : ∀ q, (q < x + 103 + 2 + 51 * ((o + k) % 8) ∨ x + 103 + 2 + 51 * ((o + k) % 8) + 51 ≤ q) → q ≠ x + 103 → H_remember (x + 103) (x + 1) I q = I q := fun q g1 g2 => by
    rw [e, rr_u g2, rr_u g2, rr_kcp g1 (by omega) (kVn hX.1).1 (kVn hX.1).2]
  refine ⟨kp_o o k, kp_k k, ek1, hko, ek2, hkk, ?_, ?_, fun q hq => ?_⟩
  · rw [e, ow_u_s, u_one, if_neg (by decide), rr_kcp (by omega) (by omega) (kVn hX.1).1 (kVn hX.1).2, h5, nI_add]
    unfold i_min kp_k
    by_cases d : k = 8
    · rw [if_pos d, d]
      decide
    · rw [if_neg d, if_neg]
      intro z
      have := (nI_ltI (by omega) (by omega)).mp z
      omega
  · rw [e, u_one, if_neg (by decide), ow_u_s, hkn]
  · have hi8 : (kp_o o k + q) % 8 < 8 := Nat.mod_lt _ (by decide)
    by_cases d : (kp_o o k + q) % 8 = (o + k) % 8
    · rw [d]
      have hcp := rl_cp (a := x + 103 + 2 + 51 * ((o + k) % 8)) hm.1 hm.2.1 (by omega)
      refine rlv_of (I := K_copyFrom (x + 103 + 2 + 51 * ((o + k) % 8)) (x + 1) I) ⟨hcp, hm.2⟩ (Nat.le_refl _) (fun b g1 g2 => ?_) (fun j hj => ?_)
      · rw [e, rr_u (by omega), rr_u (by omega)]
      · show M_keep m b J (m + 1) (370 * (1 + (o + k) % 8) + j) = J (m + 1) (370 * b + j)
        rw [hc, if_pos (by omega)]
        congr 1
        omega
    · obtain ⟨q', hq', hqe⟩ : ∃ q', q' < k ∧ (o + q') % 8 = (kp_o o k + q) % 8 := by
        unfold kp_k at hq
        unfold kp_o at d ⊢
        by_cases g : k = 8
        · rw [if_pos g] at hq d ⊢
          exact ⟨q + 1, by omega, by omega⟩
        · rw [if_neg g] at hq d ⊢
          refine ⟨q, ?_, rfl⟩
          by_cases g2 : q = k
          · rw [g2] at d
            exact absurd rfl d
          · omega
      rw [← hqe] at d ⊢
      have hj8 : (o + q') % 8 < 8 := Nat.mod_lt _ (by decide)
      refine rlv_of (h7 q' hq') (Nat.le_refl _) (fun b g1 g2 => hr b (by omega) (by omega)) (fun j hj => ?_)
      show M_keep m b J (m + 1) (370 * (1 + (o + q') % 8) + j) = J (m + 1) (370 * (1 + (o + q') % 8) + j)
      rw [hc, if_neg (by omega)]
theorem blk_0 (j : Nat) : blk m J 0 j = J (m + 1) j := by
  unfold blk
  congr 1
  omega
theorem RR_rem (h : RR x m B I J) : RR x m B (H_remember (x + 103) (x + 1) I) (M_keep m 0 J) := by
  obtain ⟨⟨h1, h2⟩, h3, h4, h5, h6, h7, h8⟩ := h
  have hX := h1
  obtain ⟨o, k, g1, g2, g3, -⟩ := id h4
  have ho : 0 ≤ J m 1 := by rw [g1]; exact nI_ge0 (by omega)
  have hk : 0 ≤ J m 2 := by
    obtain ⟨o, k, -, -, g3, g4, -⟩ := id h4
    rw [g3]
    exact nI_ge0 (by omega)
  have er : ∀ b, b < x + 103 ∨ x + 513 ≤ b → H_remember (x + 103) (x + 1) I b = I b := fun b hb => rr_rem hX hb
  have ek : ∀ b, b ≠ m → b ≠ m + 1 → M_keep m 0 J b = J b := fun b z1 z2 => rr_keep ho hk z1 z2
  have ef : ∀ j, j ≠ 1 → j ≠ 2 → M_keep m 0 J m j = J m j := fun j z1 z2 => fr_keep ho hk z1 z2
  have ec : ∀ j, j < 370 ∨ 3330 ≤ j → M_keep m 0 J (m + 1) j = J (m + 1) j := fun j z => keep_0 ho hk (Or.inl rfl) z
  refine ⟨⟨au_rem hX, cm_row h2 (er _ (by omega)) (fun i hi => er _ (by omega))⟩, st_of h3 (Nat.le_refl _) (fun b z1 z2 => er b (by omega)) (fun j hj => ec j (by omega)), RH_rem h4 hX (Or.inl rfl) (by omega) (rlv_of (a := x + 1) h3 (Nat.le_refl _) (fun _ _ _ => rfl) (fun j _ => blk_0 j)), RS_of h5 (Nat.le_refl _) (fun b z => er b (by omega)) (ek _ (by omega) (by omega)) (fun j z _ => ec j (by omega)), RI_of h6 (er _ (by omega)) (er _ (by omega)) (ef 5 (by omega) (by omega)) (ek _ (by omega) (by omega)), RE_of h7 (er _ (by omega)) (ef 6 (by omega) (by omega)) (ef 7 (by omega) (by omega)), RW_of h8 (ek _ (by omega) (by omega))⟩
end RRB
