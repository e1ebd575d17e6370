/-! the market's acts leave all rows outside of it as they were -/
section KRR
variable {a b : Nat} {I : ow_I}
theorem rr_deqL {x : Int32} (h : b ≠ a) (h4 : b ≠ a + 4) : ∀ (n : Nat) (I : ow_I) (k i : Nat), K_dequeue_L4 a x n I k i b = I b := by
  intro n
  induction n with
  | zero => intro I k i; rfl
  | succ n ih =>
    intro I k i
    simp only [K_dequeue_L4, lt_eq]
    (repeat' split) <;> simp only [ih, rr_u h, rr_u h4]
theorem rr_deq {x : Int32} (h : b ≠ a) (h4 : b ≠ a + 4) : K_dequeue a x I b = I b := by
  simp only [K_dequeue, rr_deqL h h4]
theorem rr_nod {x : Int32} (h : b < a ∨ a + 51 ≤ b) (hV : k_V a I) : K_takeNod a x I b = I b := by
  simp only [K_takeNod, lt_eq]
  split
  · rename_i q
    have h1 := ky_1 q
    have h8 := hV.1.2
    simp (disch := omega) only [rr_u]
  · rfl
theorem rr_open (h : b < a ∨ a + 51 ≤ b) (hV : k_V a I) : K_openFirst a I b = I b := by
  simp only [K_openFirst, lt_eq]
  split
  · rfl
  · rename_i q
    have h1 := (kq_1 hV q).2
    simp (disch := omega) only [rr_deq, rr_u]
theorem rr_close (h : b < a ∨ a + 51 ≤ b) (hV : k_V a I) : (K_closeBarrel a I).2 b = I b := by
  simp only [K_closeBarrel, lt_eq]
  split
  · rfl
  · rename_i q
    have h13 := (ko_1 hV q).2
    split
    · simp only [K_sendBack, lt_eq]
      split <;> simp (disch := omega) only [rr_keb, rr_kenq, rr_u]
    · rename_i q15
      have h15 := (kl_1 hV q15).2
      simp only [K_sell, lt_eq]
      simp (disch := omega) only [rr_keb, rr_u]
theorem rr_pass (h : b < a ∨ a + 51 ≤ b) (hV : k_V a I) : (K_passOneMinute a I).2 b = I b := by
  simp only [K_passOneMinute, lt_eq]
  have h1 : k_V a (ow_u I (a + 1) 2 (I (a + 1) 2 + nI 1)) := kV_t hV
  have e1 : ow_u I (a + 1) 2 (I (a + 1) 2 + nI 1) b = I b := rr_u (by omega)
  split
  · exact (rr_close h h1).trans e1
  · split
    · split
      · exact (rr_open h h1).trans e1
      · split
        · have h2 : k_V a (ow_u (ow_u I (a + 1) 2 (I (a + 1) 2 + nI 1)) a 16 (ow_u I (a + 1) 2 (I (a + 1) 2 + nI 1) a 16 + nI 1)) := kV_a h1 (by decide)
          have e2 : ow_u (ow_u I (a + 1) 2 (I (a + 1) 2 + nI 1)) a 16 (ow_u I (a + 1) 2 (I (a + 1) 2 + nI 1) a 16 + nI 1) b = I b := (rr_u (by omega)).trans e1
          split
          · split
            · exact (rr_close h h2).trans e2
            · exact (rr_close h h2).trans e2
          · exact e2
        · exact (rr_nod h h1).trans e1
    · exact e1
theorem rr_letL {n2 : Nat} (h : b < a ∨ a + 51 ≤ b) : ∀ (n : Nat) (I : ow_I) (c i : Nat), k_V a I → (K_letPass_L4 a n2 n I c i).2 b = I b := by
  intro n
  induction n with
  | zero => intro I c i _; rfl
  | succ n ih =>
    intro I c i hV
    simp only [K_letPass_L4, lt_eq]
    split
    · rfl
    · split
      · exact rr_u (by omega)
      · split
        · exact (ih _ _ _ (kV_pass hV)).trans (rr_pass h hV)
        · exact (ih _ _ _ (kV_pass hV)).trans (rr_pass h hV)
theorem rr_let {n2 : Nat} (h : b < a ∨ a + 51 ≤ b) (hV : k_V a I) : (K_letPass a n2 I).2 b = I b := by
  simp only [K_letPass]
  exact rr_letL h _ _ _ _ hV
theorem rr_kput {x c : Int32} (h : b < a ∨ a + 51 ≤ b) (hV : k_V a I) : K_putCoins a x c I b = I b := by
  simp only [K_putCoins, lt_eq]
  split
  · rename_i q
    have h1 := ky_1 q
    have h8 := hV.1.2
    simp (disch := omega) only [rr_u]
  · rfl
theorem rr_away {x : Int32} (h : b < a ∨ a + 51 ≤ b) (hV : k_V a I) : K_takeAway a x I b = I b := by
  simp only [K_takeAway, lt_eq]
  split
  · rename_i q
    have h1 := kw_1 q
    have h8 := hV.2.1.2
    simp (disch := omega) only [rr_deq, rr_u]
  · rfl
theorem rr_cut {x e : Int32} (h : b < a ∨ a + 51 ≤ b) (hV : k_V a I) : (K_cut a x e I).2 b = I b := by
  simp only [K_cut, lt_eq]
  split
  · rename_i q
    have hc := kc_1 hV q
    have hx : tn x < 20 := by have := hV.2.1.2; omega
    dsimp only
    rw [rr_u (by omega), rr_bkf (by omega) (by omega), rr_tbar h hV.2.1.1]
  · rfl
end KRR
/-! the parser's commands keep natural numbers -/
def cm_R (f : Nat → Int32) : Prop := (∃ j, j < 6 ∧ f 0 = nI j) ∧ 0 ≤ f 1 ∧ 0 ≤ f 4
def cm_V (p : Nat) (I : ow_I) : Prop := 0 ≤ I p 4 ∧ (0 ≤ I p 3 ∧ tn (I p 3) ≤ 20) ∧ ∀ i, i < 20 → cm_R (I (p + 6 + 2 * i))
theorem cm_j {p i : Nat} {I : ow_I} (h : cm_V p I) (hi : i < 20) : tn (I (p + 6 + 2 * i) 0) < 6 ∧ I (p + 6 + 2 * i) 0 = nI (tn (I (p + 6 + 2 * i) 0)) := by
  obtain ⟨j, hj, e⟩ := (h.2.2 i hi).1
  rw [e, tn_nI (by omega)]
  exact ⟨hj, rfl⟩
section CMV
variable {p : Nat} {I : ow_I}
theorem cm_of {J : ow_I} (h : cm_V p I) (h4 : 0 ≤ J p 4) (h3 : J p 3 = I p 3) (hc : ∀ i, i < 20 → J (p + 6 + 2 * i) = I (p + 6 + 2 * i)) : cm_V p J := ⟨h4, by rw [h3]; exact h.2.1, fun i hi => by rw [hc i hi]; exact h.2.2 i hi⟩
theorem cm_u {k : Nat} {x : Int32} (h : cm_V p I) (hk : k ≠ 4 ∧ k ≠ 3) : cm_V p (ow_u I p k x) := cm_of h (by rw [ow_u_k _ _ _ _ (Ne.symm hk.1)]; exact h.1) (ow_u_k _ _ _ _ (Ne.symm hk.2) _) (fun i hi => rr_u (by omega))
theorem cm_p3 {n : Nat} (h : cm_V p I) (hn : n ≤ 20) : cm_V p (ow_u I p 3 (nI n)) := ⟨by rw [ow_u_k _ _ _ _ (by decide)]; exact h.1, by rw [ow_u_s]; exact ⟨nI_pos' (by omega), by rw [tn_nI (by omega)]; exact hn⟩, fun i hi => by rw [rr_u (by omega)]; exact h.2.2 i hi⟩
theorem cm_p4 {x : Int32} (h : cm_V p I) (hx : 0 ≤ x) : cm_V p (ow_u I p 4 x) := cm_of h (by rw [ow_u_s]; exact hx) (ow_u_k _ _ _ _ (by decide) _) (fun i hi => rr_u (by omega))
theorem cm_row {J : ow_I} (h : cm_V p I) (hp : J p = I p) (hc : ∀ i, i < 20 → J (p + 6 + 2 * i) = I (p + 6 + 2 * i)) : cm_V p J := cm_of h (by rw [hp]; exact h.1) (by rw [hp]) hc
theorem cm_adv (h : cm_V p I) : cm_V p (U_advance (p + 1) I) := cm_row h (rr_adv (by omega)) (fun i hi => rr_adv (by omega))
theorem cm_qf {c : Int32} (h : cm_V p I) : cm_V p (Q_fail p c I).2 := by
  simp only [Q_fail, lt_eq]
  exact cm_u (cm_u h (by decide)) (by decide)
theorem cm_beg (h : cm_V p I) : cm_V p (Q_begin p I) := by
  simp only [Q_begin, lt_eq]
  exact cm_row (cm_u (cm_u h (by decide)) (by decide)) (rr_restart (by omega)) (fun i hi => rr_restart (by omega))
theorem cm_ts (h : cm_V p I) : cm_V p (Q_takeSemicolon p I).2 := by
  simp only [Q_takeSemicolon, lt_eq]
  (repeat' split)
  · exact cm_adv h
  · exact cm_qf h
theorem cm_tn {l m : Int32} (h : cm_V p I) (hl : 0 ≤ l) : cm_V p (Q_takeNumber p l m I).2 := by
  simp only [Q_takeNumber, lt_eq]
  split
  · split
    · rename_i q
      have hx : l ≤ I (p + 1) 5 := by
        unfold Q_isInRange at q
        split at q
        · exact absurd q (by decide)
        · rename_i q2; exact Int32.not_lt.mp q2
      exact cm_adv (cm_p4 h (Int32.le_trans hl hx))
    · exact cm_qf h
  · exact cm_qf h
theorem cm_ci {i k : Nat} {x : Int32} (h : cm_V p I) (hi : i < 20) (hk : (k = 1 ∧ 0 ≤ x) ∨ (k = 4 ∧ 0 ≤ x) ∨ (k = 0 ∧ ∃ j, j < 6 ∧ x = nI j) ∨ (k = 2)) : cm_V p (ow_u I (p + 6 + 2 * i) k x) := by
  have e : ow_u I (p + 6 + 2 * i) k x p = I p := rr_u (by omega)
  refine ⟨by rw [e]; exact h.1, by rw [e]; exact h.2.1, fun n hn => ?_⟩
  by_cases hni : n = i
  · subst hni
    obtain ⟨h0, h1, h4⟩ := h.2.2 n hn
    rcases hk with ⟨rfl, hx⟩ | ⟨rfl, hx⟩ | ⟨rfl, hx⟩ | rfl
    · exact ⟨by rw [ow_u_k _ _ _ _ (by decide)]; exact h0, by rw [ow_u_s]; exact hx, by rw [ow_u_k _ _ _ _ (by decide)]; exact h4⟩
    · exact ⟨by rw [ow_u_k _ _ _ _ (by decide)]; exact h0, by rw [ow_u_k _ _ _ _ (by decide)]; exact h1, by rw [ow_u_s]; exact hx⟩
    · exact ⟨by rw [ow_u_s]; exact hx, by rw [ow_u_k _ _ _ _ (by decide)]; exact h1, by rw [ow_u_k _ _ _ _ (by decide)]; exact h4⟩
    · exact ⟨by rw [ow_u_k _ _ _ _ (by decide)]; exact h0, by rw [ow_u_k _ _ _ _ (by decide)]; exact h1, by rw [ow_u_k _ _ _ _ (by decide)]; exact h4⟩
  · rw [rr_u (by omega)]; exact h.2.2 n hn
theorem cm_ca {i k : Nat} {x : Int32} (h : cm_V p I) (hi : i < 20) : cm_V p (ow_u I (p + 6 + 2 * i + 1) k x) := cm_row h (rr_u (by omega)) (fun n hn => rr_u (by omega))
theorem cm_rbL {c : Nat} (hc : c < 20) : ∀ (n : Nat) (I : ow_I) (i : Nat), i ≤ 10 → cm_V p I → cm_V p (Q_readBarrel_L23 p (p + 6 + 2 * c) n I i).2 := by
  intro n
  induction n with
  | zero => intro I i _ h; exact h
  | succ n ih =>
    intro I i hi h
    have k := cm_tn (l := nI 10) (m := nI 150) h (by decide)
    have k2 : i ≤ 9 → cm_V p (ow_u (ow_u (Q_takeNumber p (nI 10) (nI 150) I).2 (p + 6 + 2 * c + 1) i ((Q_takeNumber p (nI 10) (nI 150) I).2 p 4)) (p + 6 + 2 * c) 4 (nI (i + 1))) := fun h9 => cm_ci (cm_ca k hc) hc (Or.inr (Or.inl ⟨rfl, nI_pos' (by omega)⟩))
    simp only [Q_readBarrel_L23, lt_eq]
    split
    · exact h
    · rename_i q
      split
      · split
        · split <;> exact cm_qf h
        · split
          · exact ih _ _ (by omega) (k2 (by omega))
          · exact k
      · split
        · split
          · split <;> exact cm_qf h
          · split
            · exact ih _ _ (by omega) (k2 (by omega))
            · exact k
        · exact h
theorem cm_rb {c : Nat} (hc : c < 20) (h : cm_V p I) : cm_V p (Q_readBarrel p (p + 6 + 2 * c) I).2 := by
  simp only [Q_readBarrel, lt_eq]
  have k := cm_tn (l := nI 1) (m := nI 999) h (by decide)
  split
  · exact cm_rbL hc _ _ _ (by decide) (cm_ci k hc (Or.inl ⟨rfl, k.1⟩))
  · exact k
end CMV
