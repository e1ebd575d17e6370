theorem rr_rsL {p b : Nat} {c : Int32} (h : b < p ∨ p + 46 ≤ b) : ∀ (n : Nat) (I : ow_I) (i : Nat), (Q_readScript_L11 p c n I i).2 b = I b := by
  intro n
  induction n with
  | zero => intro I i; rfl
  | succ n ih =>
    intro I i
    simp only [Q_readScript_L11, lt_eq]
    split
    · rfl
    · split
      · rfl
      · split
        · split
          · exact rr_qf (by omega)
          · have k : (Q_readNumbers p (p + 6 + 2 * i) c (Q_verbHere p I) (ow_u (U_advance (p + 1) I) (p + 6 + 2 * i) 0 (nI (Q_verbHere p I)))).2 b = I b := by
              rw [rr_rn (by omega) (by omega) (by omega) (by omega), rr_u (by omega), rr_adv (by omega)]
            split
            · split
              · rw [ih, rr_u (by omega), rr_ts (by omega) (by omega)]; exact k
              · exact (rr_ts (by omega) (by omega)).trans k
            · exact k
        · exact rr_qf (by omega)
theorem in_rsL {p : Nat} {c : Int32} : ∀ (n : Nat) (I : ow_I) (i : Nat), in_R (I (p + 1)) → in_R ((Q_readScript_L11 p c n I i).2 (p + 1)) := by
  intro n
  induction n with
  | zero => intro I i h; exact h
  | succ n ih =>
    intro I i h
    simp only [Q_readScript_L11, lt_eq]
    split
    · exact h
    · split
      · exact h
      · split
        · split
          · exact in_row h (rr_qf (by omega))
          · have k : in_R ((Q_readNumbers p (p + 6 + 2 * i) c (Q_verbHere p I) (ow_u (U_advance (p + 1) I) (p + 6 + 2 * i) 0 (nI (Q_verbHere p I)))).2 (p + 1)) := in_rn (in_row (in_adv h) (rr_u (by omega))) (by omega)
            split
            · split
              · exact ih _ _ (in_row (in_ts k) (rr_u (by omega)))
              · exact in_ts k
            · exact k
        · exact in_row h (rr_qf (by omega))
theorem rr_rs {p b : Nat} {c : Int32} {I : ow_I} (h : b < p ∨ p + 46 ≤ b) : (Q_readScript p c I).2 b = I b := by
  simp only [Q_readScript, lt_eq]
  rw [rr_rsL h, rr_u (by omega), rr_beg (by omega) (by omega)]
theorem in_rs {p : Nat} {c : Int32} {I : ow_I} (hi : in_R (I (p + 1))) : in_R ((Q_readScript p c I).2 (p + 1)) := by
  simp only [Q_readScript, lt_eq]
  exact in_rsL _ _ _ (in_row (in_beg hi) (rr_u (by omega)))
theorem au_sc {x : Nat} {c : Int32} {I : ow_I} (hX : au_V x I) : au_V x (ow_u (Q_readScript (x + 515) c I).2 (x + 515 + 1) 1 (nI 0)) := by
  have e : ∀ b, (b < x + 515 ∨ x + 561 ≤ b) → ow_u (Q_readScript (x + 515) c I).2 (x + 515 + 1) 1 (nI 0) b = I b := fun b h1 => by rw [rr_u (by omega)]; exact rr_rs (by omega)
  refine ⟨kV_eq hX.1 (fun b h1 h2 => e b (by omega)), kV_eq hX.2.1 (fun b h1 h2 => e b (by omega)), fun i hi => kV_eq (hX.2.2.1 i hi) (fun b h1 h2 => e b (by omega)), fun i hi => kV_eq (hX.2.2.2.1 i hi) (fun b h1 h2 => e b (by omega)), by rw [e (x + 103) (by omega)]; exact hX.2.2.2.2.1, in_1 (in_rs hX.2.2.2.2.2) (by decide)⟩
theorem cm_sc {x : Nat} {c : Int32} {I : ow_I} (hC : cm_V (x + 515) I) : cm_V (x + 515) (ow_u (Q_readScript (x + 515) c I).2 (x + 515 + 1) 1 (nI 0)) := cm_row (cm_rs hC) (rr_u (by omega)) (fun i hi => rr_u (by omega))
theorem cm_rem {x : Nat} {I : ow_I} (hX : au_V x I) (hC : cm_V (x + 515) I) : cm_V (x + 515) (H_remember (x + 103) (x + 1) I) := cm_row hC (rr_rem hX (by omega)) (fun i hi => rr_rem hX (by omega))
theorem cm_exec {x c j : Nat} {I : ow_I} (hV : k_V (x + 1) I) (hC : cm_V (x + 515) I) : cm_V (x + 515) (K_execute (x + 1) c j I).2 := cm_row hC (rr_exec (by omega) hV) (fun i hi => rr_exec (by omega) hV)
