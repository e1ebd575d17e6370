/-! WHAT THE REFERENCE'S METHODS LEAVE: scripts, output -/
section FRN
variable {m : Nat} {J X Y : ow_I}
theorem fM_rbL {A : Nat} : ∀ (n : Nat) (X : ow_I) (b i : Nat), fM m J X → fM m J (M_runBarrel_L29 m A n X b i).2 := by
  intro n
  induction n with
  | zero => intro X b i h; exact h
  | succ n ih =>
    intro X b i h
    unfold M_runBarrel_L29
    split
    · exact h
    · exact ih _ _ _ (fM_ae h)
theorem fM_ex {A : Nat} (h : fM m J X) : fM m J (M_execute m A X).2 := by
  have pass : fM m J (M_passAll m (tn (X (m + 5) (A + 2))) X).2 := fM_pa h
  unfold M_execute
  split
  · show fM m J (M_runBarrel m A X).2
    unfold M_runBarrel
    split
    · exact h
    · rw [lt_eq]
      exact fM_rbL _ _ _ _ (fM_nb h)
  · split
    · show fM m J (M_runNod m (tn (X (m + 5) (A + 2))) X).2
      unfold M_runNod
      split
      · rw [lt_eq]
        exact fM_nn h
      · exact h
    · split
      · exact pass
      · split
        · show fM m J (M_runSplit m (X (m + 5) (A + 2)) (tn (X (m + 5) (A + 3))) X).2
          unfold M_runSplit
          split
          · split
            · rw [lt_eq]
              exact fM_sp h
            · exact h
          · exact h
        · split
          · rw [lt_eq]
            exact fM_fd h
          · split
            · show fM m J (M_runWithdraw m (X (m + 5) (A + 2)) X).2
              unfold M_runWithdraw
              split
              · split
                · rw [lt_eq]
                  exact fM_wd h
                · exact h
              · exact h
            · exact pass
theorem fM_rsL : ∀ (n : Nat) (X : ow_I) (i : Nat), fM m J X → fM m J (M_runScript_L33 m n X i).2 := by
  intro n
  induction n with
  | zero => intro X i h; exact h
  | succ n ih =>
    intro X i h
    unfold M_runScript_L33
    rw [lt_eq]
    have k := fM_ex (A := 13 * i) h
    generalize M_execute m (13 * i) X = R at k ⊢
    split
    · exact h
    · split
      · exact ih _ _ k
      · exact k
theorem fM_runScript : fM m J (M_runScript m J).2 := by
  have e : fM m J (M_failsAtScript m (ow_u J m 18 (nI 0))).2 := fM_of (fM_18 fM_r) (fun b hb => rr_scr (by omega) (by omega) (by omega)) (fr_scr (by omega))
  unfold M_runScript
  rw [lt_eq, lt_eq]
  generalize M_failsAtScript m (ow_u J m 18 (nI 0)) = R at e ⊢
  rw [lt_eq, lt_eq]
  have k := fM_ti (b := R.1) (w := nI 1) (fM_k (k := 5) (v := nI 0) (by decide) e)
  generalize M_throwsIf m R.1 (nI 1) (ow_u R.2 m 5 (nI 0)) = R4 at k ⊢
  split
  · exact k
  · rw [lt_eq]
    exact fM_rsL _ _ _ (fM_kp k)
/-- other rows, where the output is written -/
def fW (m : Nat) (J J' : ow_I) : Prop := ∀ b, (b < m ∨ m + 8 ≤ b) → J' b = J b
theorem fW_r : fW m J J := fun _ _ => rfl
theorem fW_m {k : Nat} {v : Int32} (h : fW m J X) : fW m J (ow_u X m k v) := fun b hb => (rr_u (by omega)).trans (h b hb)
theorem fW_6 {k : Nat} {v : Int32} (h : fW m J X) : fW m J (ow_u X (m + 6) k v) := fun b hb => (rr_u (by omega)).trans (h b hb)
theorem fW_e {v : Int32} (h : fW m J X) : fW m J (M_emit m v X) := by
  simp only [M_emit, lt_eq]
  exact fW_m (fW_6 h)
theorem fW_18 {v : Int32} : ∀ (n : Nat) (X : ow_I) (u : Nat), fW m J X → fW m J (M_emitNumber_L18 m v n X u) := by
  intro n
  induction n with
  | zero => intro X u h; exact h
  | succ n ih =>
    intro X u h
    unfold M_emitNumber_L18
    split
    · exact h
    · rw [lt_eq]
      exact ih _ _ (fW_e h)
theorem fW_2 {v : Int32} : ∀ (n : Nat) (X : ow_I) (u : Nat), fW m J X → fW m J (M_emitNumber_L2 m v n X u) := by
  intro n
  induction n with
  | zero => intro X u h; exact h
  | succ n ih =>
    intro X u h
    unfold M_emitNumber_L2
    split
    · exact fW_18 _ _ _ h
    · exact ih _ _ h
theorem fW_n {v : Int32} (h : fW m J X) : fW m J (M_emitNumber m v X) := fW_2 _ _ _ h
theorem fW_q : ∀ (n : Nat) (X : ow_I) (i : Nat), fW m J X → fW m J (M_writeQueue_L12 m n X i).2 := by
  intro n
  induction n with
  | zero => intro X i h; exact h
  | succ n ih =>
    intro X i h
    unfold M_writeQueue_L12
    split
    · exact h
    · split
      · rw [lt_eq]
        exact ih _ _ (fW_n h)
      · rw [lt_eq, lt_eq]
        exact ih _ _ (fW_n (fW_e h))
theorem fW_writeQueue : fW m J (M_writeQueue m J).2 := by
  unfold M_writeQueue
  rw [lt_eq, lt_eq]
  exact fW_q _ _ _ (fW_m (fW_m fW_r))
theorem fW_b {w : Int32} : ∀ (n : Nat) (X : ow_I) (i : Nat), fW m J X → fW m J (M_writeBarrel_L17 m w n X i).2 := by
  intro n
  induction n with
  | zero => intro X i h; exact h
  | succ n ih =>
    intro X i h
    unfold M_writeBarrel_L17
    split
    · split
      · rw [lt_eq]
        exact fW_e h
      · split
        · rw [lt_eq, lt_eq]
          exact fW_n (fW_e h)
        · split
          · rw [lt_eq]
            exact fW_e h
          · exact h
    · split
      · rw [lt_eq]
        exact ih _ _ (fW_n h)
      · rw [lt_eq, lt_eq]
        exact ih _ _ (fW_n (fW_e h))
theorem fW_writeBarrel {w : Int32} : fW m J (M_writeBarrel m w J).2 := by
  have e : fW m J (M_lacksBarrel m w J).2 := fun b hb => (fM_lb (v := w) (J := J) fM_r).1 b (by omega)
  unfold M_writeBarrel
  rw [lt_eq]
  generalize M_lacksBarrel m w J = R at e ⊢
  split
  · exact e
  · rw [lt_eq]
    exact fW_b _ _ _ (fW_m e)
end FRN
/-! WHAT THE CLASS'S METHODS LEAVE -/
def fA (x : Nat) (I I' : ow_I) : Prop := ∀ b, (b < x ∨ b = x + 562 ∨ b = x + 563 ∨ x + 666 ≤ b) → I' b = I b
section FRX
variable {x m B : Nat} {I J : ow_I}
theorem fA_r : fA x I I := fun _ _ => rfl
theorem fA_t {I1 I2 : ow_I} (h : fA x I I1) (g : fA x I1 I2) : fA x I I2 := fun b hb => (g b hb).trans (h b hb)
theorem fA_rem (hX : au_V x I) : fA x I (H_remember (x + 103) (x + 1) I) := fun b hb => rr_rem hX (by omega)
/-- a change of the market, kept before -/
theorem fA_k {I2 : ow_I} (hX : au_V x I) (h : k_V (x + 1) (H_remember (x + 103) (x + 1) I) → ∀ b, (b < x + 1 ∨ x + 52 ≤ b) → b ≠ x + 561 → I2 b = H_remember (x + 103) (x + 1) I b) : fA x I I2 := fA_t (fA_rem hX) (fun b hb => h (kV_rem hX) b (by omega) (by omega))
theorem fA_nod {b : Int32} (hX : au_V x I) : fA x I (A_nod x b I).2.2 := by
  simp only [A_nod, lt_eq]
  (repeat' split) <;> (try dsimp only) <;> first | exact fA_r | exact fA_k hX (fun hV b hb _ => rr_nod (by omega) hV)
theorem fA_passMinutes {n : Int32} (hX : au_V x I) : fA x I (A_passMinutes x n I).2.2 := by
  simp only [A_passMinutes, lt_eq]
  split
  · exact fA_k hX (fun hV b hb _ => rr_let (by omega) hV)
  · exact fA_r
theorem fA_addBarrel {r n l : Int32} (hX : au_V x I) : fA x I (A_addBarrel x r n l I).2.2 := by
  simp only [A_addBarrel, lt_eq]
  (repeat' split) <;> (try dsimp only) <;> first | exact fA_r | exact fA_k hX (fun hV b hb h => (rr_tbar (by omega) (by rw [rr_fill (by omega)]; exact hV.2.1.1)).trans (rr_fill h))
theorem fA_split {b n : Int32} (hX : au_V x I) : fA x I (A_split x b n I).2.2 := by
  simp only [A_split, lt_eq]
  (repeat' split) <;> (try dsimp only) <;> first | exact fA_r | exact fA_k hX (fun hV b hb _ => rr_cut (by omega) hV)
theorem fA_withdraw {b : Int32} (hX : au_V x I) : fA x I (A_withdraw x b I).2.2 := by
  simp only [A_withdraw, lt_eq]
  (repeat' split) <;> (try dsimp only) <;> first | exact fA_r | exact fA_k hX (fun hV b hb _ => rr_away (by omega) hV)
theorem fA_fund {b c : Int32} (hX : au_V x I) : fA x I (A_fund x b c I).2.2 := by
  simp only [A_fund, lt_eq]
  (repeat' split) <;> (try dsimp only) <;> first | exact fA_r | exact fA_k hX (fun hV b hb _ => rr_kput (by omega) hV)
theorem fA_setReserve {b c : Int32} (h : RR x m B I J) : fA x I (A_setReserve x b c I).2.2 := by
  have h7 := h.2.1.2.1.2.2.1.2
  rcases bar_or (b := b) h with ⟨q1, -, -, -, q5, q6⟩ | ⟨q1, -, -⟩
  · simp only [A_setReserve, lt_eq, q1]
    (repeat' split) <;> (try dsimp only) <;> first | exact fA_r | exact fA_k h.1.1 (fun hV b hb _ => rr_u (by omega))
  · simp only [A_setReserve, lt_eq, q1]
    rw [if_neg (by decide)]
    exact fA_r
theorem fA_setStep {s : Int32} (hX : au_V x I) : fA x I (A_setStep x s I).2.2 := by
  simp only [A_setStep, lt_eq]
  split
  · exact fA_k hX (fun hV b hb _ => rr_u (by omega))
  · exact fA_r
theorem fA_setTaste {b s f : Int32} (h : RR x m B I J) : fA x I (A_setTaste x b s f I).2.2 := by
  have h6 := h.2.1.2.1.2.1.2.2
  rcases buy_or (b := b) h with ⟨q1, -, q5, q6⟩ | ⟨q1, -⟩
  · simp only [A_setTaste, lt_eq, q1]
    (repeat' split) <;> (try dsimp only) <;> first | exact fA_r | exact fA_k h.1.1 (fun hV b hb _ => (rr_u (by omega)).trans (rr_u (by omega)))
  · simp only [A_setTaste, lt_eq, q1]
    rw [if_neg (by decide)]
    exact fA_r
theorem fA_undo (hX : au_V x I) : fA x I (A_undo x I).2.2 := by
  have hn8 : (tn (I (x + 103) 1) + 8 - 1) % 8 < 8 := Nat.mod_lt _ (by decide)
  have hk := hX.2.2.1 _ hn8
  simp only [A_undo, H_takeBack, lt_eq]
  split
  · exact fA_r
  · dsimp only
    split
    · exact fA_r
    · intro b hb
      rw [rr_kcp (by omega) (by omega) (by rw [rr_u (by omega), rr_u (by omega)]; exact hk.1.2) (by rw [rr_u (by omega), rr_u (by omega)]; exact hk.2.1.2), rr_u (by omega), rr_u (by omega)]
theorem fA_saveSnapshot {s : Int32} (hX : au_V x I) (h : RR x m B I J) : fA x I (A_saveSnapshot x s I).2 := by
  rcases rng_or (v := s) (lo := nI 0) (hi := nI 1) (I := I) (J := J) with ⟨p1, -, p3, p4⟩ | ⟨p1, -⟩
  · obtain ⟨y, hy, rfl⟩ := nI_ex (show 0 ≤ s from p3) (tn_lt s)
    have hs := (nI_leI hy (by decide)).mp p4
    simp only [A_saveSnapshot, lt_eq, p1, tn_nI hy]
    rw [if_pos trivial]
    intro b hb
    show ow_u _ (x + 514) _ _ b = _
    rw [rr_u (by omega), rr_kcp (by omega) (by omega) hX.1.1.2 hX.1.2.1.2]
  · simp only [A_saveSnapshot, lt_eq, p1]
    rw [if_neg (by decide)]
    exact fA_r
theorem fA_restoreSnapshot {s : Int32} (hX : au_V x I) : fA x I (A_restoreSnapshot x s I).2.2 := by
  rcases rng_or (v := s) (lo := nI 0) (hi := nI 1) (I := I) (J := I) with ⟨p1, -, p3, p4⟩ | ⟨p1, -⟩
  · obtain ⟨y, hy, rfl⟩ := nI_ex (show 0 ≤ s from p3) (tn_lt s)
    have hs := (nI_leI hy (by decide)).mp p4
    have hk := (au_rem hX).2.2.2.1 y (by omega)
    simp only [A_restoreSnapshot, lt_eq, p1, tn_nI hy]
    rw [if_pos trivial]
    split
    · exact fA_r
    · exact fA_k hX (fun hV b hb _ => rr_kcp (by omega) (by omega) hk.1.2 hk.2.1.2)
  · simp only [A_restoreSnapshot, lt_eq, p1]
    rw [if_neg (by decide)]
    exact fA_r
theorem fA_fs {s : Int32} {n : Nat} (h1 : k_V (x + 1) I) (h2 : k_V (x + 52) I) : fA x I (A_foresee x s n I) := fun b hb => rr_fs h1 h2 (by omega)
theorem fA_sellerCoinsAfter {n : Int32} (hX : au_V x I) : fA x I (A_sellerCoinsAfter x n I).2.2 := by
  simp only [A_sellerCoinsAfter, lt_eq]
  split
  · exact fA_fs hX.1 hX.2.1
  · exact fA_r
theorem fA_buyerAfter {b n : Int32} (hX : au_V x I) : fA x I (A_buyerAfter x b n I).2.2 := by
  simp only [A_buyerAfter, lt_eq]
  (repeat' split) <;> (try dsimp only) <;> first | exact fA_r | exact fA_fs hX.1 hX.2.1
theorem fA_bsL {n : Int32} : ∀ (k : Nat) (I : ow_I) (w o : Int32) (i : Nat), k_V (x + 1) I → k_V (x + 52) I → fA x I (A_bestStep_L15 x n k I w o i).2.2 := by
  intro k
  induction k with
  | zero => intro I w o i h1 h2; exact fA_r
  | succ k ih =>
    intro I w o i h1 h2
    simp only [A_bestStep_L15, lt_eq]
    split
    · exact fA_r
    · split <;> exact fA_t (fA_fs h1 h2) (ih _ _ _ _ (kV_fs1 h1 h2) (kV_fs h1 h2))
theorem fA_bestStep {n : Int32} (hX : au_V x I) : fA x I (A_bestStep x n I).2.2 := by
  simp only [A_bestStep, lt_eq]
  split
  · exact fA_bsL _ _ _ _ _ hX.1 hX.2.1
  · exact fA_r
theorem fA_msL {b : Int32} : ∀ (k : Nat) (I : ow_I) (i : Nat), k_V (x + 52) I → fA x I (A_minutesToSale_L37 x b k I i).2.2 := by
  intro k
  induction k with
  | zero => intro I i h2; exact fA_r
  | succ k ih =>
    intro I i h2
    have e : fA x I (K_letPass (x + 52) 1 I).2 := fun b hb => rr_let (by omega) h2
    unfold A_minutesToSale_L37
    split
    · exact fA_r
    · rw [lt_eq]
      split
      · exact e
      · exact fA_t e (ih _ _ (kV_let h2))
theorem fA_minutesToSale {b : Int32} (hX : au_V x I) : fA x I (A_minutesToSale x b I).2.2 := by
  unfold A_minutesToSale
  split
  · split
    · exact fA_r
    · rw [lt_eq]
      exact fA_t (fun b hb => rr_sc hX.1 (by omega)) (fA_msL _ _ _ (kV_sc hX.1 hX.2.1))
  · exact fA_r
theorem fA_loadSetup (hX : au_V x I) (hC : cm_V (x + 515) I) : fA x I (A_loadSetup x I).2.2 := by
  have hT := cs_set (p := x + 515) (a := x + 52) (I := I) (J := I) (by omega) ⟨⟨hX.2.2.2.2.2, hX.2.1, fun _ _ _ => rfl⟩, hC⟩
  have hX2 := au_rs hX
  unfold A_loadSetup
  rw [lt_eq, lt_eq]
  generalize Q_readSetup (x + 515) (x + 52) I = R at hT hX2 ⊢
  have e : fA x I (ow_u R.2 (x + 515 + 1) 1 (nI 0)) := fun b hb => (rr_u (by omega)).trans (hT.1.2.2 b (by omega) (by omega))
  split
  · rw [lt_eq, lt_eq]
    exact fA_t e (fA_k hX2 (fun hV b hb _ => rr_kcp (by omega) (by omega) (au_rem hX2).2.1.1.2 (au_rem hX2).2.1.2.1.2))
  · exact e
theorem fA_rsL : ∀ (k : Nat) (I : ow_I) (i : Nat), k_V (x + 1) I → fA x I (A_runScript_L53 x k I i).2.2 := by
  intro k
  induction k with
  | zero => intro I i h; exact fA_r
  | succ k ih =>
    intro I i h
    unfold A_runScript_L53
    rw [lt_eq]
    have e : fA x I (K_execute (x + 1) (x + 515 + 6 + 2 * i) (tn (I (x + 515 + 6 + 2 * i) 0)) I).2 := fun b hb => rr_exec (by omega) h
    have kv := kV_exec (c := x + 515 + 6 + 2 * i) (j := tn (I (x + 515 + 6 + 2 * i) 0)) h
    generalize K_execute (x + 1) (x + 515 + 6 + 2 * i) (tn (I (x + 515 + 6 + 2 * i) 0)) I = R at e kv ⊢
    split
    · exact fA_r
    · split
      · exact fA_t e (ih _ _ kv)
      · exact e
theorem fA_runScript (hX : au_V x I) : fA x I (A_runScript x I).2.2 := by
  have hX2 := @au_sc x (I (x + 1) 8) I hX
  have rA : ∀ b, (b < x + 515 ∨ x + 515 + 46 ≤ b) → (Q_readScript (x + 515) (I (x + 1) 8) I).2 b = I b := fun b hb => rr_rs hb
  unfold A_runScript
  rw [lt_eq, lt_eq]
  generalize Q_readScript (x + 515) (I (x + 1) 8) I = R at rA hX2 ⊢
  have e : fA x I (ow_u R.2 (x + 515 + 1) 1 (nI 0)) := fun b hb => (rr_u (by omega)).trans (rA b (by omega))
  split
  · rw [lt_eq]
    exact fA_t e (fA_t (fA_rem hX2) (fA_rsL _ _ _ (kV_rem hX2)))
  · exact e
theorem fA_truncate {n : Int32} : fA x I (A_truncate x n I).2.2 := by
  simp only [A_truncate, lt_eq]
  split
  · intro b hb
    show ow_u I (x + 515 + 1) 1 n b = I b
    rw [rr_u (by omega)]
  · exact fA_r
theorem fA_4L {w : Int32} : ∀ (n : Nat) (I : ow_I) (s : Int32), fA x I (U_addFour_L3 (x + 515 + 1) w n I s) := by
  intro n
  induction n with
  | zero => intro I s; exact fA_r
  | succ n ih =>
    intro I s
    unfold U_addFour_L3
    split
    · exact fA_r
    · rw [lt_eq]
      refine fA_t ?_ (ih _ _)
      simp only [U_addByte, lt_eq]
      split
      · exact fA_r
      · intro b hb
        rw [rr_u (by omega), rr_u (by omega)]
theorem fA_4 {w : Int32} {I : ow_I} : fA x I (U_addFour (x + 515 + 1) w I) := fA_4L _ _ _
theorem fA_append {a b c d e : Int32} : fA x I (A_append x a b c d e I).2.2 := by
  simp only [A_append, lt_eq]
  split
  · dsimp only
    exact fA_t fA_4 (fA_t fA_4 (fA_t fA_4 (fA_t fA_4 fA_4)))
  · exact fA_r
end FRX
