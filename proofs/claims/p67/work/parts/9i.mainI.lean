theorem pT_rset {p a : Nat} {I J : ow_I} (hT : ps_T p a I J) (hd : a + 51 ≤ p ∨ p + 46 ≤ a) : ps_T p a I (Q_readSetup p a J).2 := by
  simp only [Q_readSetup, lt_eq]
  (repeat' split) <;> (repeat (first | with_reducible exact hT | with_reducible refine pT_tn ?_ hd | with_reducible refine pT_ts ?_ hd | with_reducible refine pT_tw ?_ hd | with_reducible refine pT_rb ?_ hd | with_reducible refine pT_adv ?_ hd | with_reducible refine pT_beg ?_ hd | with_reducible refine pT_qf ?_ hd | with_reducible refine pT_tbuy ?_ hd | with_reducible refine pT_tbar ?_ hd | with_reducible refine pT_emp ?_ hd | with_reducible refine pT_ry ?_ hd | with_reducible refine pT_rm ?_ hd | with_reducible refine pT_rys ?_ hd | with_reducible refine pT_rbs ?_ hd | with_reducible refine pT_row ?_ hd | with_reducible refine pT_a ?_ hd (by decide)))
theorem kV_fs {x n : Nat} {s : Int32} {I : ow_I} (h1 : k_V (x + 1) I) (h2 : k_V (x + 52) I) : k_V (x + 52) (A_foresee x s n I) := by
  simp only [A_foresee, lt_eq]
  exact kV_let (kV_a (kV_sc h1 h2) (by decide))
theorem rr_fs {x n b : Nat} {s : Int32} {I : ow_I} (h1 : k_V (x + 1) I) (h2 : k_V (x + 52) I) (hb : b < x + 52 ∨ x + 103 ≤ b) : A_foresee x s n I b = I b := by
  simp only [A_foresee, lt_eq]
  rw [rr_let (by omega) (kV_a (kV_sc h1 h2) (by decide)), rr_u (by omega), rr_sc h1 hb]
theorem kV_fs1 {x n : Nat} {s : Int32} {I : ow_I} (h1 : k_V (x + 1) I) (h2 : k_V (x + 52) I) : k_V (x + 1) (A_foresee x s n I) := kV_eq h1 (fun b q1 q2 => rr_fs h1 h2 (by omega))
def au_ls (x : Nat) (I : ow_I) : ow_I := ow_u (Q_readSetup (x + 515) (x + 52) I).2 (x + 515 + 1) 1 (nI 0)
theorem au_rs {x : Nat} {I : ow_I} (hX : au_V x I) : au_V x (ow_u (Q_readSetup (x + 515) (x + 52) I).2 (x + 515 + 1) 1 (nI 0)) := by
  have hT := pT_rset (p := x + 515) (a := x + 52) (I := I) (J := I) ⟨hX.2.2.2.2.2, hX.2.1, fun _ _ _ => rfl⟩ (by omega)
  have e : ∀ b, (b < x + 515 ∨ x + 561 ≤ b) → (b < x + 52 ∨ x + 103 ≤ b) → ow_u (Q_readSetup (x + 515) (x + 52) I).2 (x + 515 + 1) 1 (nI 0) b = I b := fun b h1 h2 => by rw [rr_u (by omega)]; exact hT.2.2 b (by omega) (by omega)
  refine ⟨kV_eq hX.1 (fun b h1 h2 => e b (by omega) (by omega)), kV_eq hT.2.1 (fun b h1 h2 => rr_u (by omega)), fun i hi => kV_eq (hX.2.2.1 i hi) (fun b h1 h2 => e b (by omega) (by omega)), fun i hi => kV_eq (hX.2.2.2.1 i hi) (fun b h1 h2 => e b (by omega) (by omega)), by rw [e (x + 103) (by omega) (by omega)]; exact hX.2.2.2.2.1, in_1 hT.1 (by decide)⟩
