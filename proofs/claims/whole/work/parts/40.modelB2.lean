/-! the reference's acts: what they leave as it was -/
/-- only the block of the market, not the number of its buyers -/
def md_F (m : Nat) (I J : ow_I) : Prop := (∀ a, a ≠ m + 1 → J a = I a) ∧ (∀ k, 370 ≤ k ∨ k = 6 ∨ k = 0 → J (m + 1) k = I (m + 1) k)
theorem F_r {m : Nat} {I : ow_I} : md_F m I I := ⟨fun _ _ => rfl, fun _ _ => rfl⟩
theorem F_t {m : Nat} {I J K : ow_I} (h1 : md_F m I J) (h2 : md_F m J K) : md_F m I K := ⟨fun a h => (h2.1 a h).trans (h1.1 a h), fun k h => (h2.2 k h).trans (h1.2 k h)⟩
theorem F_s {m k : Nat} {I J : ow_I} (h : md_F m I J) (x : Int32) (hk : k < 370) (h6 : k ≠ 6) (h0 : k ≠ 0) : md_F m I (ow_u J (m + 1) k x) :=
  ⟨fun a ha => (rr_u ha).trans (h.1 a ha), fun j hj => by rw [ow_u_k _ _ _ _ (by omega)]; exact h.2 j hj⟩
theorem F_p {m b w : Nat} {I J : ow_I} (h : md_F m I J) (x : Int32) (hb : b < 6) (hw : w < 5) : md_F m I (M_put m b w x J) := F_s h x (by omega) (by omega) (by omega)
theorem F_b {m b w : Nat} {I J : ow_I} (h : md_F m I J) (x : Int32) (hb : b < 20) (hw : w < 15) : md_F m I (M_putBarrel m b w x J) := F_s h x (by omega) (by omega) (by omega)
theorem F_close {m : Nat} {I : ow_I} (hv : md_V (I (m + 1))) (h8 : 0 ≤ I (m + 1) 8) : md_F m I (M_closeBarrel m I) := by
  have hb := mdV_8 hv h8
  have hq := mdV_q hv h8
  have h10 := mdV_10 hv
  simp only [M_closeBarrel, lt_eq]
  split
  · refine F_s (F_s (F_s (F_s ?_ _ (by omega) (by omega) (by omega)) _ (by omega) (by omega) (by omega)) _ (by omega) (by omega) (by omega)) _ (by omega) (by omega) (by omega)
    simp only [M_turnBack, lt_eq]
    split
    · exact F_b (F_b F_r _ hb (by omega)) _ hb (by omega)
    · simp only [M_enqueue, lt_eq]
      have e : tn ((M_putBarrel m (tn (I (m + 1) 8)) 11 (M_ofBarrel m (tn (I (m + 1) 8)) 11 I + nI 1) I) (m + 1) 12) = tn (I (m + 1) 12) := by rw [rdPB (by omega)]
      refine F_s (F_s (F_b (F_b F_r _ hb (by omega)) _ hb (by omega)) _ ?_ ?_ ?_) _ (by omega) (by omega) (by omega) <;> rw [e] <;> omega
  · rename_i hl
    have hl := h10 (i_nlt hl)
    refine F_s (F_s (F_s (F_s ?_ _ (by omega) (by omega) (by omega)) _ (by omega) (by omega) (by omega)) _ (by omega) (by omega) (by omega)) _ (by omega) (by omega) (by omega)
    simp only [M_sell, lt_eq]
    exact F_b (F_b (F_b (F_s (F_s (F_p (F_p F_r _ hl (by omega)) _ hl (by omega)) _ (by omega) (by omega) (by omega)) _ (by omega) (by omega) (by omega)) _ hb (by omega)) _ hb (by omega)) _ hb (by omega)
theorem rr_dq34 {m b a : Nat} (h : a ≠ m + 1) : ∀ (n : Nat) (I : ow_I) (j : Nat), M_dequeue_L34 m b n I j a = I a := by
  intro n
  induction n with
  | zero => intro I j; rfl
  | succ n ih =>
    intro I j
    simp only [M_dequeue_L34, lt_eq]
    split
    · rfl
    · rw [ih, rr_u h]
theorem rr_dq2 {m b a : Nat} (h : a ≠ m + 1) : ∀ (n : Nat) (I : ow_I) (j : Nat), M_dequeue_L2 m b n I j a = I a := by
  intro n
  induction n with
  | zero => intro I j; rfl
  | succ n ih =>
    intro I j
    simp only [M_dequeue_L2, lt_eq]
    split
    · rw [rr_dq34 h, rr_u h]
    · rw [ih]
theorem rr_dq {m b a : Nat} {I : ow_I} (h : a ≠ m + 1) : M_dequeue m b I a = I a := rr_dq2 h _ _ _
theorem F_dq {m b p : Nat} {I : ow_I} (h0 : 0 ≤ I (m + 1) 12) (h20 : tn (I (m + 1) 12) ≤ 20) (hp : p < tn (I (m + 1) 12)) (hb : I (m + 1) (16 + p) = nI b) (hn : ∀ j, j < p → ¬ I (m + 1) (16 + j) = nI b) : md_F m I (M_dequeue m b I) :=
  ⟨fun a ha => rr_dq ha, fun k hk => by rw [dq_cells h0 h20 hp hb hn, if_neg (by omega), if_neg (by omega)]⟩
theorem F_open {m : Nat} {I : ow_I} (hv : md_V (I (m + 1))) : md_F m I (M_openFirst m I) := by
  simp only [M_openFirst, lt_eq]
  split
  · exact F_r
  · rename_i hne
    have h12 := hv.2.2.2.2.2.1
    have h0 := mdV_q0 hv (by omega)
    have d := @F_dq m (tn (I (m + 1) 16)) 0 I h12.1 h12.2 (by omega) (nI_tn h0.1).symm (fun j hj => by omega)
    exact F_s (F_s (F_s (F_s (F_b d _ h0.2 (by omega)) _ (by omega) (by omega) (by omega)) _ (by omega) (by omega) (by omega)) _ (by omega) (by omega) (by omega)) _ (by omega) (by omega) (by omega)
theorem F_nod {m b : Nat} {I : ow_I} (hb : b < 6) : md_F m I (M_nodNow m b I).2 := by
  simp only [M_nodNow, lt_eq]
  exact F_p (F_s (F_s (F_s F_r _ (by omega) (by omega) (by omega)) _ (by omega) (by omega) (by omega)) _ (by omega) (by omega) (by omega)) _ hb (by omega)
theorem F_think {m : Nat} {I : ow_I} (hv : md_V (I (m + 1))) (h8 : 0 ≤ I (m + 1) 8) : md_F m I (M_think m I) := by
  simp only [M_think, lt_eq]
  split
  · have hr := V_row hv (I (m + 1) 11 + nI 1) (Or.inr (Or.inl rfl))
    have hf : md_F m I (ow_u I (m + 1) 11 (I (m + 1) 11 + nI 1)) := F_s F_r _ (by omega) (by omega) (by omega)
    split
    · exact hf
    · exact F_t hf (F_close hr (by rw [ow_u_k _ _ _ _ (by decide)]; exact h8))
  · exact F_nod (by have := M_thinker_rng hv (i_nlt (by assumption)); have := hv.2.1; omega)
theorem F_passOne {m : Nat} {I : ow_I} (hv : md_V (I (m + 1))) : md_F m I (M_passOne m I) := by
  have key : ∀ J : ow_I, md_V (J (m + 1)) → md_F m J (if M_isOpenNow m J then if 0 ≤ J (m + 1) 8 then M_think m J else M_openFirst m J else J) := by
    intro J hJ
    split
    · split
      · exact F_think hJ (by assumption)
      · exact F_open hJ
    · exact F_r
  simp only [M_passOne, lt_eq]
  have hr := V_row hv (I (m + 1) 5 + nI 1) (Or.inl rfl)
  have hf : md_F m I (ow_u I (m + 1) 5 (I (m + 1) 5 + nI 1)) := F_s F_r _ (by omega) (by omega) (by omega)
  split
  · split
    · exact F_t hf (key _ hr)
    · exact F_t hf (F_t (F_close hr (i_nlt (by assumption))) (key _ (V_close hr (i_nlt (by assumption)))))
  · exact F_t hf (key _ hr)
theorem F_paL {m n2 : Nat} : ∀ (n : Nat) (I : ow_I) (c : Int32) (i : Nat), md_V (I (m + 1)) → md_F m I (M_passAll_L8 m n2 n I c i).2 := by
  intro n
  induction n with
  | zero => intro I c i hv; exact F_r
  | succ n ih =>
    intro I c i hv
    simp only [M_passAll_L8, lt_eq]
    split
    · exact F_r
    · exact F_t (F_passOne hv) (ih _ _ _ (V_passOne hv))
theorem F_passAll {m n : Nat} {I : ow_I} (hv : md_V (I (m + 1))) : md_F m I (M_passAll m n I).2 := F_paL _ _ _ _ hv
theorem F_runBarrel {m a : Nat} {I : ow_I} (hv : md_V (I (m + 1))) (h2 : 2 ≤ tn (I (m + 5) (a + 1))) (h10 : tn (I (m + 5) (a + 1)) ≤ 10) : md_F m I (M_runBarrel m a I).2 := by
  refine ⟨fun a' ha => rr_rb ha, fun k hk => ?_⟩
  simp only [M_runBarrel, lt_eq]
  split
  · rfl
  · rename_i h7
    have h7 := B20 hv h7
    have h12 := mdV_qlt hv h7
    rw [(rb_eq h7 h12 (by omega) h10).1, fill_o (by omega), nb_o h7 h12 (by omega)]
theorem F_runNod {m b : Nat} {I : ow_I} (hb : b < 6) : md_F m I (M_runNod m b I).2 := by
  simp only [M_runNod, lt_eq]
  split
  · exact F_nod hb
  · exact F_r
theorem F_withdraw {m b p : Nat} {I : ow_I} (hv : md_V (I (m + 1))) (hb : b < 20) (hp : p < tn (I (m + 1) 12)) (hpm : I (m + 1) (16 + p) = nI b) : md_F m I (M_withdrawNow m b I).2 := by
  have h12 := hv.2.2.2.2.2.1
  have hinj := hv.2.2.2.2.2.2.2.1
  have d := @F_dq m b p I h12.1 h12.2 hp hpm (fun j hj z => absurd (hinj j p (by omega) hp (z.trans hpm.symm)) (by omega))
  simp only [M_withdrawNow, lt_eq]
  exact F_b d _ hb (by omega)
theorem F_runWithdraw {m : Nat} {x : Int32} {I : ow_I} (hv : md_V (I (m + 1))) : md_F m I (M_runWithdraw m x I).2 := by
  simp only [M_runWithdraw, lt_eq]
  split
  · rename_i hb
    split
    · rename_i hw
      have hb := isB hb hv.2.2.1.1
      obtain ⟨p, hp, hq⟩ := V_wait hv hb.2 hw
      exact F_withdraw hv (by have := hv.2.2.1; omega) hp hq
    · exact F_r
  · exact F_r
theorem F_fund {m b : Nat} {x : Int32} {I : ow_I} (hb : b < 6) : md_F m I (M_fundNow m b x I).2 := by
  simp only [M_fundNow, lt_eq]
  split
  · exact F_s (F_p F_r _ hb (by omega)) _ (by omega) (by omega) (by omega)
  · exact F_s (F_p F_r _ hb (by omega)) _ (by omega) (by omega) (by omega)
theorem F_splitNow {m b e : Nat} {I : ow_I} (hv : md_V (I (m + 1))) (hb : b < tn (I (m + 1) 7)) (h7 : tn (I (m + 1) 7) < 20) (he : e < tn (M_ofBarrel m b 0 I)) : md_F m I (M_splitNow m b e I).2 := by
  have h9 : tn (M_ofBarrel m b 0 I) ≤ 9 := (hv.2.2.2.2.2.2.2.2.2 b hb).2.2
  have h12 := mdV_qlt hv h7
  exact ⟨fun a ha => rr_spl ha, fun k hk => by rw [spl_cells hb h7 h12 h9 he, if_neg (by omega), if_neg (by omega), fill_o (by omega), nb_o h7 h12 (by omega)]⟩
theorem F_runSplit {m e : Nat} {x : Int32} {I : ow_I} (hv : md_V (I (m + 1))) (he8 : e ≤ 8) : md_F m I (M_runSplit m x e I).2 := by
  simp only [M_runSplit, lt_eq]
  split
  · rename_i hb
    split
    · rename_i hw
      have hb := isB hb hv.2.2.1.1
      have h := (lt_tn (cS hw).2.1 (nI_ge0 (by omega))).2
      rw [tn_nI (by omega)] at h
      exact F_splitNow hv hb.2 (cS7 hv hw) h
    · exact F_r
  · exact F_r
theorem F_execute {m a : Nat} {I : ow_I} (hv : md_V (I (m + 1))) (hcm : md_CC (I (m + 1) 6) (fun k => I (m + 5) (a + k))) : md_F m I (M_execute m a I).2 := by
  simp only [M_execute, lt_eq]
  split
  · rename_i e
    exact F_runBarrel hv (CC2 hcm e).2.1 (CC2 hcm e).2.2
  · split
    · rename_i e
      exact F_runNod (by have := (CC3 hcm e).2; have := hv.2.1; omega)
    · split
      · exact F_passAll hv
      · split
        · rename_i e
          exact F_runSplit hv (CC5 hcm e).2.2.2
        · split
          · rename_i e
            exact F_fund (by have := (CC6 hcm e).1.2; have := hv.2.1; omega)
          · split
            · exact F_runWithdraw hv
            · exact F_passAll hv
/-- commands that can be executed -/
def md_C (m : Nat) (I : ow_I) : Prop := 0 ≤ I m 15 ∧ tn (I m 15) ≤ 20 ∧ ∀ c, c < tn (I m 15) → md_CC (I (m + 1) 6) (fun k => I (m + 5) (13 * c + k))
theorem C_of {m : Nat} {I J : ow_I} (h : md_C m I) (h15 : J m 15 = I m 15) (h6 : J (m + 1) 6 = I (m + 1) 6) (h5 : J (m + 5) = I (m + 5)) : md_C m J := by
  unfold md_C at h ⊢
  rw [h15, h6, h5]
  exact h
theorem C_exec {m a : Nat} {I : ow_I} (h : md_C m I) (hv : md_V (I (m + 1))) (hcm : md_CC (I (m + 1) 6) (fun k => I (m + 5) (a + k))) : md_C m (M_execute m a I).2 := by
  have f := F_execute hv hcm
  exact C_of h (by rw [f.1 m (by omega)]) (f.2 6 (by omega)) (f.1 _ (by omega))
/-- the kept states' counters -/
def kp_o (o k : Nat) : Nat := if k = 8 then (o + 1) % 8 else o
def kp_k (k : Nat) : Nat := if k = 8 then 8 else k + 1
def kp_t (o k : Nat) : Nat := 1 + (kp_o o k + kp_k k - 1) % 8
theorem kp_tr (o k : Nat) : 1 ≤ kp_t o k ∧ kp_t o k ≤ 8 := by
  unfold kp_t
  omega
theorem keep_eq {m b : Nat} {I : ow_I} (ho : 0 ≤ I m 1) (hk : 0 ≤ I m 2) : ∃ J : ow_I, M_keep m b I = M_copyBlock m b (kp_t (tn (I m 1)) (tn (I m 2))) J ∧ (∀ a, a ≠ m → J a = I a) ∧ (∀ k, k ≠ 1 → k ≠ 2 → J m k = I m k) ∧ J m 1 = nI (kp_o (tn (I m 1)) (tn (I m 2))) ∧ J m 2 = nI (kp_k (tn (I m 2))) := by
  unfold M_keep kp_t kp_o kp_k
  split
  · rename_i h
    exact ⟨_, by simp only [lt_eq]; rw [h], fun a ha => rr_u ha, fun k h1 h2 => ow_u_k _ _ _ _ h1 _, ow_u_s _ _ _ _, by rw [ow_u_k _ _ _ _ (by decide), ← h, nI_tn hk]⟩
  · rename_i h
    exact ⟨_, by simp only [lt_eq], fun a ha => rr_u ha, fun k h1 h2 => ow_u_k _ _ _ _ h2 _, by rw [ow_u_k _ _ _ _ (by decide), nI_tn ho], ow_u_s _ _ _ _⟩
theorem rr_keep {m b a : Nat} {I : ow_I} (ho : 0 ≤ I m 1) (hk : 0 ≤ I m 2) (h : a ≠ m) (h1 : a ≠ m + 1) : M_keep m b I a = I a := by
  obtain ⟨J, e, h2, -⟩ := keep_eq (b := b) ho hk
  rw [e, rr_cb h1, h2 a h]
theorem fr_keep {m b k : Nat} {I : ow_I} (ho : 0 ≤ I m 1) (hk : 0 ≤ I m 2) (h1 : k ≠ 1) (h2 : k ≠ 2) : M_keep m b I m k = I m k := by
  obtain ⟨J, e, -, h3, -⟩ := keep_eq (b := b) ho hk
  rw [e, rr_cb (by omega), h3 k h1 h2]
theorem keep_cells {m b : Nat} {I : ow_I} (ho : 0 ≤ I m 1) (hk : 0 ≤ I m 2) (hb : b = 0 ∨ 9 ≤ b) (k : Nat) : M_keep m b I (m + 1) k = if 370 * kp_t (tn (I m 1)) (tn (I m 2)) ≤ k ∧ k < 370 * kp_t (tn (I m 1)) (tn (I m 2)) + 370 then I (m + 1) (370 * b + (k - 370 * kp_t (tn (I m 1)) (tn (I m 2)))) else I (m + 1) k := by
  obtain ⟨J, e, h2, -⟩ := keep_eq (b := b) ho hk
  have t := kp_tr (tn (I m 1)) (tn (I m 2))
  rw [e, cb_cells (by omega), h2 _ (by omega)]
theorem keep_0 {m b : Nat} {I : ow_I} (ho : 0 ≤ I m 1) (hk : 0 ≤ I m 2) (hb : b = 0 ∨ 9 ≤ b) {k : Nat} (h : k < 370 ∨ 3330 ≤ k) : M_keep m b I (m + 1) k = I (m + 1) k := by
  have t := kp_tr (tn (I m 1)) (tn (I m 2))
  rw [keep_cells ho hk hb, if_neg (by omega)]
theorem V_blk {A A' : Nat → Int32} (hv : md_V A) (h : ∀ k, k < 370 → A' k = A k) : md_V A' := by
  rw [md_V_eq] at hv ⊢
  rw [h 0 (by omega), h 6 (by omega), h 7 (by omega), h 8 (by omega), h 10 (by omega), h 12 (by omega)]
  exact VV_congr hv (fun i hi => h _ (by omega)) (fun i hi => h _ (by omega)) (fun i hi => h _ (by omega))
theorem V_keep {m b : Nat} {I : ow_I} (hv : md_V (I (m + 1))) (ho : 0 ≤ I m 1) (hk : 0 ≤ I m 2) (hb : b = 0 ∨ 9 ≤ b) : md_V (M_keep m b I (m + 1)) := V_blk hv (fun k h => keep_0 ho hk hb (by omega))
