/-! THE RELATION of the whole class (at x) and the whole reference (at m) -/
def rlv (B a : Nat) (I : ow_I) (f : Nat → Int32) : Prop := rl a I f ∧ md_V f ∧ iv B f
def blk (m : Nat) (J : ow_I) (k : Nat) : Nat → Int32 := fun j => J (m + 1) (370 * k + j)
def RH (x m B : Nat) (I J : ow_I) : Prop := ∃ o k : Nat, J m 1 = nI o ∧ o < 8 ∧ J m 2 = nI k ∧ k ≤ 8 ∧ I (x + 103) 2 = nI k ∧ I (x + 103) 1 = nI ((o + k) % 8) ∧ ∀ q, q < k → rlv B (x + 103 + 2 + 51 * ((o + q) % 8)) I (blk m J (1 + (o + q) % 8))
def RS (x m B : Nat) (I J : ow_I) : Prop := ∀ s, s < 2 → I (x + 514) s = J (m + 2) s ∧ (¬ J (m + 2) s = 0 → rlv B (x + 564 + 51 * s) I (blk m J (9 + s)))
def RI (x m : Nat) (I J : ow_I) : Prop := ∃ n : Nat, I (x + 515 + 1) 1 = nI n ∧ J m 5 = nI n ∧ n ≤ 500 ∧ ∀ i, i < n → ∃ y : Nat, y < 256 ∧ I (x + 515 + 1 + 1) i = nI y ∧ J (m + 3) i = (nI y).toInt8.toInt32
def RE (x m : Nat) (I J : ow_I) : Prop := I (x + 515) 5 = J m 6 ∧ I (x + 515) 6 = J m 7
def RW (m : Nat) (J : ow_I) : Prop := ∀ j, j < 64 → J (m + 7) j = nI (mi_w.getD j 0)
def RR (x m B : Nat) (I J : ow_I) : Prop := (au_V x I ∧ cm_V (x + 515) I) ∧ st (x + 1) m B I J ∧ RH x m B I J ∧ RS x m B I J ∧ RI x m I J ∧ RE x m I J ∧ RW m J
theorem iH_m {B B' : Nat} {f : Nat → Int32} (h : iH B f) (hB : B ≤ B') : iH B' f := ⟨h.1, h.2.1, h.2.2.1, h.2.2.2.1, by obtain ⟨n, e, hn⟩ := h.2.2.2.2; exact ⟨n, e, by omega⟩⟩
theorem iv_m {B B' : Nat} {f : Nat → Int32} (h : iv B f) (hB : B ≤ B') : iv B' f := ⟨iH_m h.1 hB, h.2⟩
theorem V_of {f g : Nat → Int32} (hv : md_V f) (e : ∀ j, j < 366 → g j = f j) : md_V g := by
  have h7 := hv.2.2.1.2
  have h12 := hv.2.2.2.2.2.1.2
  have hv2 := hv
  rw [md_V_eq] at hv2 ⊢
  rw [e 0 (by omega), e 6 (by omega), e 7 (by omega), e 8 (by omega), e 10 (by omega), e 12 (by omega)]
  exact VV_congr hv2 (fun i hi => e _ (by omega)) (fun i hi => e _ (by omega)) (fun i hi => e _ (by omega))
theorem iv_of {B : Nat} {f g : Nat → Int32} (hi : iv B f) (hv : md_V f) (e : ∀ j, j < 366 → g j = f j) : iv B g := by
  have h6 := hv.2.1.2.2
  have h7 := hv.2.2.1.2
  have h8b := fun h => mdV_8 hv h
  have h10b := fun h => mdV_10 hv h
  obtain ⟨hH, hY, hK, hO, hL, hS⟩ := hi
  refine ⟨iH_c hH (fun j _ => e j (by omega)), iY_c hY h6 (e 6 (by omega)) (fun i _ => e _ (by omega)), iK_c hK hv (e 7 (by omega)) (fun j _ _ => e j (by omega)), fun z => ?_, fun z => ?_, iS_c hS h7 (e 13 (by omega)) (e 7 (by omega)) (fun k hk => by rw [e _ (by omega)])⟩
  · rw [e 8 (by omega)] at z ⊢
    have := h8b z
    rw [e 11 (by omega), e 2 (by omega), e _ (by omega)]
    exact hO z
  · rw [e 10 (by omega)] at z ⊢
    have := h10b z
    rw [e 9 (by omega), e 4 (by omega), e _ (by omega)]
    exact hL z
theorem rlv_of {B B' a : Nat} {I I' : ow_I} {f g : Nat → Int32} (h : rlv B a I f) (hB : B ≤ B') (eI : ∀ b, a ≤ b → b < a + 51 → I' b = I b) (e : ∀ j, j < 366 → g j = f j) : rlv B' a I' g :=
  ⟨rl_I h.1 h.2.1 eI e, V_of h.2.1 e, iv_m (iv_of h.2.2 h.2.1 e) hB⟩
section RRA
variable {x m B B' : Nat} {I I' J J' : ow_I}
theorem st_of (h : st (x + 1) m B I J) (hB : B ≤ B') (eI : ∀ b, x + 1 ≤ b → b < x + 52 → I' b = I b) (e : ∀ j, j < 366 → J' (m + 1) j = J (m + 1) j) : st (x + 1) m B' I' J' := rlv_of (a := x + 1) h hB (fun b h1 h2 => eI b h1 (by omega)) e
theorem RH_of (h : RH x m B I J) (hB : B ≤ B') (eI : ∀ b, x + 103 ≤ b → b < x + 513 → I' b = I b) (e1 : J' m 1 = J m 1) (e2 : J' m 2 = J m 2) (e : ∀ j, 370 ≤ j → j < 3330 → J' (m + 1) j = J (m + 1) j) : RH x m B' I' J' := by
  obtain ⟨o, k, h1, h2, h3, h4, h5, h6, h7⟩ := h
  refine ⟨o, k, by rw [e1, h1], h2, by rw [e2, h3], h4, by rw [eI _ (by omega) (by omega), h5], by rw [eI _ (by omega) (by omega), h6], fun q hq => ?_⟩
  have hm : (o + q) % 8 < 8 := Nat.mod_lt _ (by decide)
  exact rlv_of (h7 q hq) hB (fun b h1 h2 => eI b (by omega) (by omega)) (fun j hj => e _ (by omega) (by omega))
theorem RS_of (h : RS x m B I J) (hB : B ≤ B') (eI : ∀ b, (b = x + 514 ∨ (x + 564 ≤ b ∧ b < x + 666)) → I' b = I b) (e2 : J' (m + 2) = J (m + 2)) (e : ∀ j, 3330 ≤ j → j < 4070 → J' (m + 1) j = J (m + 1) j) : RS x m B' I' J' := by
  intro s hs
  obtain ⟨h1, h2⟩ := h s hs
  refine ⟨by rw [eI _ (by omega), e2, h1], fun z => ?_⟩
  rw [e2] at z
  exact rlv_of (h2 z) hB (fun b h1 h2 => eI b (by omega)) (fun j hj => e _ (by omega) (by omega))
theorem RI_of (h : RI x m I J) (e1 : I' (x + 515 + 1) = I (x + 515 + 1)) (e2 : I' (x + 515 + 1 + 1) = I (x + 515 + 1 + 1)) (e3 : J' m 5 = J m 5) (e4 : J' (m + 3) = J (m + 3)) : RI x m I' J' := by
  unfold RI
  rw [e1, e2, e3, e4]
  exact h
theorem RE_of (h : RE x m I J) (e1 : I' (x + 515) = I (x + 515)) (e3 : J' m 6 = J m 6) (e4 : J' m 7 = J m 7) : RE x m I' J' := by
  unfold RE
  rw [e1, e3, e4]
  exact h
theorem RW_of (h : RW m J) (e : J' (m + 7) = J (m + 7)) : RW m J' := by
  unfold RW
  rw [e]
  exact h
theorem au_row {I I' : ow_I} (h : au_V x I) (hc : cm_V (x + 515) I) (hk : k_V (x + 1) I') (hs : k_V (x + 52) I') (e : ∀ b, (x + 103 ≤ b ∧ b < x + 561) ∨ (x + 564 ≤ b ∧ b < x + 666) → I' b = I b) : au_V x I' ∧ cm_V (x + 515) I' :=
  ⟨⟨hk, hs, fun i hi => kV_eq (h.2.2.1 i hi) (fun b h1 h2 => e b (by omega)), fun i hi => kV_eq (h.2.2.2.1 i hi) (fun b h1 h2 => e b (by omega)), by rw [e (x + 103) (by omega)]; exact h.2.2.2.2.1, by rw [e (x + 515 + 1) (by omega)]; exact h.2.2.2.2.2⟩, cm_row hc (e _ (by omega)) (fun i hi => e _ (by omega))⟩
/-- an act on the market alone -/
theorem RR_mkt (h : RR x m B I J) (hB : B ≤ B') (hst : st (x + 1) m B' I' J') (hk : k_V (x + 1) I') (hs : k_V (x + 52) I') (eI : ∀ b, (x + 103 ≤ b ∧ b < x + 561) ∨ (x + 564 ≤ b ∧ b < x + 666) → I' b = I b) (eJ : ∀ b, b ≠ m + 1 → J' b = J b) (eC : ∀ j, 370 ≤ j → J' (m + 1) j = J (m + 1) j) : RR x m B' I' J' := by
  obtain ⟨⟨h1, h2⟩, h3, h4, h5, h6, h7, h8⟩ := h
  have em := eJ m (by omega)
  refine ⟨au_row h1 h2 hk hs eI, hst, RH_of h4 hB (fun b g1 g2 => eI b (by omega)) (by rw [em]) (by rw [em]) (fun j g1 _ => eC j g1), RS_of h5 hB (fun b g => eI b (by omega)) (eJ _ (by omega)) (fun j g1 _ => eC j (by omega)), RI_of h6 (eI _ (by omega)) (eI _ (by omega)) (by rw [em]) (eJ _ (by omega)), RE_of h7 (eI _ (by omega)) (by rw [em]) (by rw [em]), RW_of h8 (eJ _ (by omega))⟩
/-- a cell of the reference's own row that the relation doesn't speak of -/
theorem RR_cell {k : Nat} {y : Int32} (h : RR x m B I J) (hk : k ≠ 1 ∧ k ≠ 2 ∧ k ≠ 5 ∧ k ≠ 6 ∧ k ≠ 7) : RR x m B I (ow_u J m k y) := by
  obtain ⟨h1, h3, h4, h5, h6, h7, h8⟩ := h
  have e : ∀ b, b ≠ m → ow_u J m k y b = J b := fun b hb => rr_u hb
  have c : ∀ j, j ≠ k → ow_u J m k y m j = J m j := fun j hj => ow_u_k _ _ _ _ hj _
  exact ⟨h1, st_of h3 (Nat.le_refl _) (fun _ _ _ => rfl) (fun j _ => by rw [e _ (by omega)]), RH_of h4 (Nat.le_refl _) (fun _ _ _ => rfl) (c 1 (by omega)) (c 2 (by omega)) (fun j _ _ => by rw [e _ (by omega)]), RS_of h5 (Nat.le_refl _) (fun _ _ => rfl) (e _ (by omega)) (fun j _ _ => by rw [e _ (by omega)]), RI_of h6 rfl rfl (c 5 (by omega)) (e _ (by omega)), RE_of h7 rfl (c 6 (by omega)) (c 7 (by omega)), RW_of h8 (e _ (by omega))⟩
end RRA
