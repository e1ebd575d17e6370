/-! WHAT HOLDS BETWEEN TWO CALLS IS KEPT BY A MINUTE -/
section LIN
variable {x q B B' : Nat} {I J : ow_I} {f g : Nat → Int32}
theorem au_rem (hX : au_V x I) : au_V x (H_remember (x + 103) (x + 1) I) := by
  have h1 := hX.2.2.2.2.1
  refine ⟨kV_rem hX, kV_eq hX.2.1 (fun b z1 z2 => rr_rem hX (by omega)), fun i hi => ?_, fun i hi => kV_eq (hX.2.2.2.1 i hi) (fun b z1 z2 => rr_rem hX (by omega)), ?_, by rw [rr_rem hX (by omega)]; exact hX.2.2.2.2.2⟩
  · simp only [H_remember, lt_eq]
    by_cases e : i = tn (I (x + 103) 1)
    · subst e
      exact kV_eq (kV_cp (a := x + 103 + 2 + 51 * tn (I (x + 103) 1)) (o := x + 1) hX.1 (hX.2.2.1 _ hi) (by omega)) (fun b z1 z2 => by rw [rr_u (by omega), rr_u (by omega)])
    · exact kV_eq (hX.2.2.1 i hi) (fun b z1 z2 => by rw [rr_u (by omega), rr_u (by omega), rr_kcp (by omega) (by omega) hX.1.1.2 hX.1.2.1.2])
  · simp only [H_remember, lt_eq]
    rw [ow_u_k _ _ _ _ (by decide), ow_u_s, tn_nI (by omega)]
    exact ⟨nI_ge0 (by omega), by omega⟩
theorem au_mk (hX : au_V x I) (hJ : ∀ b, b < x + 1 ∨ x + 52 ≤ b → J b = I b) (hk : k_V (x + 1) J) : au_V x J := by
  obtain ⟨h1, h2, h3, h4, h5, h6⟩ := hX
  refine ⟨hk, kV_eq h2 (fun b z1 z2 => hJ b (by omega)), fun i hi => kV_eq (h3 i hi) (fun b z1 z2 => hJ b (by omega)), fun i hi => kV_eq (h4 i hi) (fun b z1 z2 => hJ b (by omega)), by rw [hJ _ (by omega)]; exact h5, by rw [hJ _ (by omega)]; exact h6⟩
theorem rl_rem (hX : au_V x I) (hr : rl (x + 1) I f) (hv : md_V f) : rl (x + 1) (H_remember (x + 103) (x + 1) I) f := rl_I hr hv (fun b h1 h2 => rr_rem hX (by omega)) (fun _ _ => rfl)
theorem li_next (hX : au_V x I) (hJ : ∀ b, b < x + 1 ∨ x + 52 ≤ b → J b = H_remember (x + 103) (x + 1) I b) (hk : k_V (x + 1) J) (hr : rl (x + 1) J g) (hv : md_V g) (hi : iv B' g) (hl : lgf (1000 + 40 * B') g) (hq : g 0 = f 0 ∧ g 1 = f 1 ∧ g 2 = f 2 ∧ g 4 = f 4) (hf : I q 0 = f 0 ∧ I q 1 = f 1 ∧ I q 2 = f 2 ∧ I q 3 = f 4) (h1 : x + 666 ≤ q) (h2 : B' ≤ 100000) (ho : 0 ≤ g 8 → M_isOpenNow 0 (fun _ => g) = true) : LI B' x q J := by
  have e : J q = I q := (hJ q (by omega)).trans (rr_rem hX (by omega))
  exact li_of (au_mk (au_rem hX) hJ hk) hr hv hi hl ⟨by rw [e, hf.1, hq.1], by rw [e, hf.2.1, hq.2.1], by rw [e, hf.2.2.1, hq.2.2.1], by rw [e, hf.2.2.2, hq.2.2.2]⟩ h1 h2 ho
theorem kq.four (h : kq f g) : g 0 = f 0 ∧ g 1 = f 1 ∧ g 2 = f 2 ∧ g 4 = f 4 := ⟨h.1, h.2.1, h.2.2.1, h.2.2.2.1⟩
/-- minutes of the reference -/
def pit (m : Nat) : Nat → ow_I → ow_I
  | 0, J => J
  | n + 1, J => pit m n (M_passOne m J)
theorem pa_it {m n2 : Nat} {c : Int32} : ∀ (fuel i : Nat) (J : ow_I), i ≤ n2 → n2 < i + fuel → (M_passAll_L8 m n2 fuel J c i).2 = pit m (n2 - i) J ∧ (M_passAll_L8 m n2 fuel J c i).1 = M_countState m (nI 2) (pit m (n2 - i) J) - c := by
  intro fuel
  induction fuel with
  | zero => intro i J h1 h2; omega
  | succ fuel ih =>
    intro i J h1 h2
    simp only [M_passAll_L8, lt]
    by_cases e : n2 ≤ i
    · rw [if_pos e, show n2 - i = 0 by omega]
      exact ⟨rfl, rfl⟩
    · rw [if_neg e]
      have := ih (i + 1) (M_passOne m J) (by omega) (by omega)
      rw [show n2 - i = n2 - (i + 1) + 1 by omega]
      exact this
theorem pass_it {m n : Nat} {J : ow_I} : (M_passAll m n J).2 = pit m n J ∧ (M_passAll m n J).1 = M_countState m (nI 2) (pit m n J) - M_countState m (nI 2) J := by
  have := pa_it (m := m) (n2 := n) (c := M_countState m (nI 2) J) (n + 1) 0 J (Nat.zero_le _) (by omega)
  exact this
/-- a row as a memory -/
def gm (f : Nat → Int32) : ow_I := fun _ => f
theorem pm_eq : (A_passMinutes x (nI 1) I).2 = (K_letPass (x + 1) 1 (H_remember (x + 103) (x + 1) I)).2 ∧ (A_passMinutes x (nI 1) I).1 = (K_letPass (x + 1) 1 (H_remember (x + 103) (x + 1) I)).1 := ⟨rfl, rfl⟩
/-- a minute of both -/
theorem pm_st (hX : au_V x I) (hr : rl (x + 1) I f) (hv : md_V f) (hi : iv B f) (hB : B < 2 ^ 28) : st (x + 1) 0 (B + 1) (A_passMinutes x (nI 1) I).2 (M_passOne 0 (gm f)) ∧ (A_passMinutes x (nI 1) I).1 = M_countState 0 (nI 2) (M_passOne 0 (gm f)) - M_countState 0 (nI 2) (gm f) := by
  have h := st_let (a := x + 1) (m := 0) (B := B) (I := H_remember (x + 103) (x + 1) I) (J := gm f) (n2 := 1) ⟨rl_rem hX hr hv, hv, hi⟩ (by omega)
  rw [pm_eq.1, pm_eq.2]
  have e := pass_it (m := 0) (n := 1) (J := gm f)
  rw [e.1, e.2] at h
  exact h
theorem pm_LI (h : LI B x q I) (hB : B < 100000) : LI (B + 1) x q (A_passMinutes x (nI 1) I).2 ∧ (A_passMinutes x (nI 1) I).2 (x + 1) 10 = I (x + 1) 10 ∧ (A_passMinutes x (nI 1) I).2 (x + 1) 8 = I (x + 1) 8 := by
  obtain ⟨f, hr, hv, hi, hl, hq, hop⟩ := li_to h
  have hX := h.1
  obtain ⟨⟨hr', hv', hi'⟩, -⟩ := pm_st hX hr hv hi (by omega)
  obtain ⟨l1, l2⟩ := lk_pass (m := 0) (J := gm f) (P := 1000 + 40 * B) (by omega) hv hi (by omega) hl
  refine ⟨li_next hX (fun b hb => ?_) ?_ hr' hv' hi' (lgf_mono l1 (by omega)) l2.four hq h.2.2.2.2.1 (by omega) (po_open (m := 0) (J := gm f) hv hi (by omega) hop), ?_, ?_⟩
  · exact rr_let (by omega) (kV_rem hX)
  · exact kV_let (kV_rem hX)
  · rw [hr'.2.2.1.2.1, hr.2.2.1.2.1]; exact l2.2.2.2.2.2
  · rw [hr'.2.2.1.1, hr.2.2.1.1]; exact l2.2.2.2.2.1
end LIN
