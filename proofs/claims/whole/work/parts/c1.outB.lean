/-! THE OUTPUT: queue and barrel written alike -/
section OUB
variable {x m B n : Nat} {t : Nat → Nat} {I J J' : ow_I}
theorem RR_out (h : RR x m B I J) (f : oF m J J') : RR x m B I J' := by
  obtain ⟨h1, h3, h4, h5, h6, h7, h8⟩ := h
  exact ⟨h1, st_of h3 (Nat.le_refl _) (fun _ _ _ => rfl) (fun j _ => by rw [f.1 _ (by omega) (by omega)]), RH_of h4 (Nat.le_refl _) (fun _ _ _ => rfl) (f.2 1 (by omega)) (f.2 2 (by omega)) (fun j _ _ => by rw [f.1 _ (by omega) (by omega)]), RS_of h5 (Nat.le_refl _) (fun _ _ => rfl) (f.1 _ (by omega) (by omega)) (fun j _ _ => by rw [f.1 _ (by omega) (by omega)]), RI_of h6 rfl rfl (f.2 5 (by omega)) (f.1 _ (by omega) (by omega)), RE_of h7 rfl (f.2 6 (by omega)) (f.2 7 (by omega)), RW_of h8 (f.1 _ (by omega) (by omega))⟩
/-- one more number of a list -/
theorem ot_s {f : Nat → Nat} {i : Nat} (h : ot m (wl f i).1 (wl f i).2 J) (hi : 0 < i) (hv : f i < 100000) (hb : (wl f i).1 ≤ 100) : ot m (wl f (i + 1)).1 (wl f (i + 1)).2 (M_emitNumber m (nI (f i)) (M_emit m (nI 44) J)) ∧ oF m J (M_emitNumber m (nI (f i)) (M_emit m (nI 44) J)) := by
  obtain ⟨a1, a2⟩ := ot_c (c := 44) h (by omega) (by decide)
  obtain ⟨b1, b2⟩ := ot_n a1 hv (by omega)
  rw [wl_p hi]
  exact ⟨b1, oF_t a2 b2⟩
theorem ot_0 {f : Nat → Nat} (h : ot m (wl f 0).1 (wl f 0).2 J) (hv : f 0 < 100000) : ot m (wl f 1).1 (wl f 1).2 (M_emitNumber m (nI (f 0)) J) ∧ oF m J (M_emitNumber m (nI (f 0)) J) := by
  obtain ⟨b1, b2⟩ := ot_n h hv (by show 0 + 5 ≤ 200; decide)
  rw [show wl f 1 = wl f (0 + 1) from rfl, wl_z (by decide)]
  exact ⟨b1, b2⟩
theorem wq_loop {f : Nat → Nat} {N : Nat} (hN : N ≤ 20) : ∀ (k i : Nat) (J : ow_I), i ≤ N → N - i < k → tn (J (m + 1) 12) = N → (∀ j, j < N → J (m + 1) (16 + j) = nI (f j) ∧ f j < 100) → ot m (wl f i).1 (wl f i).2 J →
    ∃ J', M_writeQueue_L12 m k J i = (nI (wl f N).1, J') ∧ ot m (wl f N).1 (wl f N).2 J' ∧ oF m J J' := by
  intro k
  induction k with
  | zero => intro i J h1 h2; omega
  | succ k ih =>
    intro i J h1 h2 h12 hf ho
    have hb := (@wl_b f 2 i (fun j hj => dg_2 (hf j (by omega)).2)).1
    unfold M_writeQueue_L12
    rw [h12]
    by_cases d : N ≤ i
    · rw [if_pos d]
      obtain rfl : i = N := by omega
      exact ⟨J, by rw [ho.1], ho, oF_r⟩
    · rw [if_neg d]
      have hv := hf i (by omega)
      by_cases z : i = 0
      · rw [if_pos ((nI_sg (by omega)).mpr z), lt_eq, hv.1]
        rw [z] at ho hv ⊢
        obtain ⟨a1, a2⟩ := ot_0 ho (by omega)
        obtain ⟨J', q1, q2, q3⟩ := ih 1 _ (by omega) (by omega) (by rw [a2.1 _ (by omega) (by omega), h12]) (fun j hj => by rw [a2.1 _ (by omega) (by omega)]; exact hf j hj) a1
        exact ⟨J', q1, q2, oF_t a2 q3⟩
      · rw [if_neg (fun y => z ((nI_sg (by omega)).mp y)), lt_eq, lt_eq]
        have e : M_emit m (nI 44) J (m + 1) (16 + i) = nI (f i) := by
          have := (ot_c (c := 44) ho (by omega) (by decide)).2
          rw [this.1 _ (by omega) (by omega), hv.1]
        rw [e]
        obtain ⟨a1, a2⟩ := ot_s ho (by omega) (by omega) (by omega)
        obtain ⟨J', q1, q2, q3⟩ := ih (i + 1) _ (by omega) (by omega) (by rw [a2.1 _ (by omega) (by omega), h12]) (fun j hj => by rw [a2.1 _ (by omega) (by omega)]; exact hf j hj) a1
        exact ⟨J', q1, q2, oF_t a2 q3⟩
theorem ot_start {J : ow_I} {f : Nat → Nat} (h : J m 17 = nI 0) : ot m (wl f 0).1 (wl f 0).2 J := ⟨h, by show 0 ≤ 200; decide, fun i hi => by have : i < 0 := hi; omega⟩
theorem r_writeQueue (h : RR x m B I J) : ∃ N f, I (x + 1) 12 = nI N ∧ N ≤ 20 ∧ (wl f N).1 ≤ 59 ∧ (∀ j, j < N → I (x + 1 + 4) j = nI (f j) ∧ f j < 2 ^ 31) ∧ (M_writeQueue m J).1 = nI (wl f N).1 ∧ ot m (wl f N).1 (wl f N).2 (M_writeQueue m J).2 ∧ (M_writeQueue m J).2 m 18 = nI 0 ∧ RR x m B I (M_writeQueue m J).2 := by
  have h1 := RR_18 (y := nI 0) h
  have z18 : ow_u J m 18 (nI 0) m 18 = nI 0 := ow_u_s _ _ _ _
  simp only [M_writeQueue, lt_eq]
  generalize ow_u J m 18 (nI 0) = J1 at h1 z18 ⊢
  have hv := h1.2.1.2.1
  have h12 := hv.2.2.2.2.2.1
  have h7 := hv.2.2.1.2
  have hq : ∀ j, j < tn (J1 (m + 1) 12) → J1 (m + 1) (16 + j) = nI (tn (J1 (m + 1) (16 + j))) ∧ tn (J1 (m + 1) (16 + j)) < 20 := fun j hj => by
    have q := hv.2.2.2.2.2.2.1 j hj
    exact ⟨(nI_tn q.1).symm, by have := q.2.1; omega⟩
  have f17 : oF m J1 (ow_u J1 m 17 (nI 0)) := ⟨fun b z1 _ => rr_u z1, fun k hk => by rw [u_one, if_neg hk]⟩
  have e1 : ow_u J1 m 17 (nI 0) (m + 1) = J1 (m + 1) := rr_u (by omega)
  obtain ⟨J', q1, q2, q3⟩ := wq_loop (m := m) (f := fun j => tn (J1 (m + 1) (16 + j))) (N := tn (J1 (m + 1) 12)) h12.2 21 0 (ow_u J1 m 17 (nI 0)) (Nat.zero_le _) (by omega) (by rw [e1]) (fun j hj => by rw [e1]; exact ⟨(hq j hj).1, by have := (hq j hj).2; omega⟩) (ot_start (ow_u_s _ _ _ _))
  have hb := @wl_b (fun j => tn (J1 (m + 1) (16 + j))) 2 (tn (J1 (m + 1) 12)) (fun j hj => dg_2 (by have := (hq j hj).2; omega))
  refine ⟨tn (J1 (m + 1) 12), fun j => tn (J1 (m + 1) (16 + j)), ?_, h12.2, ?_, fun j hj => ⟨?_, by have := (hq j hj).2; show tn (J1 (m + 1) (16 + j)) < 2 ^ 31; omega⟩, by rw [q1], by rw [q1]; exact q2, ?_, by rw [q1]; exact RR_out h1 (oF_t f17 q3)⟩
  · rw [h1.2.1.1.2.2.1.2.2, nI_tn h12.1]
  · by_cases z : 0 < tn (J1 (m + 1) 12)
    · have := hb.2 z
      omega
    · have := hb.1
      omega
  · rw [h1.2.1.1.2.2.2.2.2.1 j hj]
    exact (hq j hj).1
  · rw [q1]
    dsimp only
    rw [(oF_t f17 q3).2 18 (by decide), z18]
theorem wb_loop {f : Nat → Nat} {N sg pr b : Nat} (hN : N ≤ 9) (hb : b < 20) (hs : sg ≤ 3) (hp : sg = 2 → pr < 100000) : ∀ (k i : Nat) (J : ow_I), i ≤ N → N - i < k → J (m + 1) (66 + 15 * b) = nI N → (∀ j, j < N → J (m + 1) (66 + 15 * b + (1 + j)) = nI (f j) ∧ f j < 1000) → J (m + 1) (66 + 15 * b + 12) = nI sg → (sg = 2 → J (m + 1) (66 + 15 * b + 14) = nI pr) → ot m (wl f i).1 (wl f i).2 J →
    ∃ J', M_writeBarrel_L17 m (nI b) k J i = (nI (wb (wl f N) sg pr).1, J') ∧ ot m (wb (wl f N) sg pr).1 (wb (wl f N) sg pr).2 J' ∧ oF m J J' := by
  intro k
  induction k with
  | zero => intro i J h1 h2; omega
  | succ k ih =>
    intro i J h1 h2 h0 hf h12 h14 ho
    have hbd := (@wl_b f 3 i (fun j hj => dg_3 (hf j (by omega)).2)).1
    have o0 : tn (M_ofBarrel m (tn (nI b)) 0 J) = N := by
      show tn (J (m + 1) (66 + 15 * tn (nI b))) = N
      rw [tn_nI (show b < 2 ^ 31 by omega), h0, tn_nI (by omega)]
    have o12 : M_ofBarrel m (tn (nI b)) 12 J = nI sg := by
      show J (m + 1) (66 + 15 * tn (nI b) + 12) = nI sg
      rw [tn_nI (show b < 2 ^ 31 by omega), h12]
    unfold M_writeBarrel_L17
    rw [o0, o12]
    by_cases d : N ≤ i
    · rw [if_pos d]
      obtain rfl : i = N := by omega
      have hs4 : sg = 0 ∨ sg = 1 ∨ sg = 2 ∨ sg = 3 := by omega
      unfold wb
      rcases hs4 with hz | hz | hz | hz <;> subst hz
      · rw [if_neg (show ¬ nI 0 = nI (1 + 0) by decide), if_neg (show ¬ nI 0 = nI (1 + 1) by decide), if_neg (show ¬ nI 0 = nI (1 + 2) by decide), if_neg (show ¬ (0 : Nat) = 2 by decide), if_neg (show ¬ (0 : Nat) = 1 by decide), if_neg (show ¬ (0 : Nat) = 3 by decide)]
        exact ⟨J, by rw [ho.1], ho, oF_r⟩
      · rw [if_pos (show nI 1 = nI (1 + 0) from rfl), if_neg (show ¬ (1 : Nat) = 2 by decide), if_pos (show (1 : Nat) = 1 from rfl), lt_eq]
        obtain ⟨a1, a2⟩ := ot_c (c := 63) ho (by omega) (by decide)
        exact ⟨_, by rw [a1.1], a1, a2⟩
      · rw [if_neg (show ¬ nI 2 = nI (1 + 0) by decide), if_pos (show nI 2 = nI (1 + 1) from rfl), if_pos (show (2 : Nat) = 2 from rfl), lt_eq, lt_eq]
        obtain ⟨a1, a2⟩ := ot_c (c := 61) ho (by omega) (by decide)
        have o14 : M_ofBarrel m (tn (nI b)) 14 (M_emit m (nI 61) J) = nI pr := by
          show M_emit m (nI 61) J (m + 1) (66 + 15 * tn (nI b) + 14) = nI pr
          rw [a2.1 _ (by omega) (by omega), tn_nI (show b < 2 ^ 31 by omega), h14 rfl]
        rw [o14]
        obtain ⟨b1, b2⟩ := ot_n a1 (hp rfl) (by omega)
        exact ⟨_, by rw [b1.1], b1, oF_t a2 b2⟩
      · rw [if_neg (show ¬ nI 3 = nI (1 + 0) by decide), if_neg (show ¬ nI 3 = nI (1 + 1) by decide), if_pos (show nI 3 = nI (1 + 2) from rfl), if_neg (show ¬ (3 : Nat) = 2 by decide), if_neg (show ¬ (3 : Nat) = 1 by decide), if_pos (show (3 : Nat) = 3 from rfl), lt_eq]
        obtain ⟨a1, a2⟩ := ot_c (c := 120) ho (by omega) (by decide)
        exact ⟨_, by rw [a1.1], a1, a2⟩
    · rw [if_neg d]
      have hv := hf i (by omega)
      have len : ∀ X, X (m + 1) = J (m + 1) → M_lengthOf m (tn (nI b)) i X = nI (f i) := fun X hX => by
        show X (m + 1) (66 + 15 * tn (nI b) + (1 + i)) = nI (f i)
        rw [hX, tn_nI (show b < 2 ^ 31 by omega), hv.1]
      have go : ∀ J2, ot m (wl f (i + 1)).1 (wl f (i + 1)).2 J2 → oF m J J2 → ∃ J', M_writeBarrel_L17 m (nI b) k J2 (i + 1) = (nI (wb (wl f N) sg pr).1, J') ∧ ot m (wb (wl f N) sg pr).1 (wb (wl f N) sg pr).2 J' ∧ oF m J J' := fun J2 a1 a2 => by
        have e := a2.1 (m + 1) (by omega) (by omega)
        obtain ⟨J', q1, q2, q3⟩ := ih (i + 1) J2 (by omega) (by omega) (by rw [e, h0]) (fun j hj => by rw [e]; exact hf j hj) (by rw [e, h12]) (fun z => by rw [e]; exact h14 z) a1
        exact ⟨J', q1, q2, oF_t a2 q3⟩
      by_cases z : i = 0
      · rw [if_pos ((nI_sg (by omega)).mpr z), lt_eq, len J rfl]
        rw [z] at ho hv go ⊢
        obtain ⟨a1, a2⟩ := ot_0 ho (by omega)
        exact go _ a1 a2
      · rw [if_neg (fun y => z ((nI_sg (by omega)).mp y)), lt_eq, lt_eq, len _ ((ot_c (c := 44) ho (by omega) (by decide)).2.1 _ (by omega) (by omega))]
        obtain ⟨a1, a2⟩ := ot_s ho (by omega) (by omega) (by omega)
        exact go _ a1 a2
theorem r_writeBarrel {w : Int32} (h : RR x m B I J) :
    (A_barrelAt x w I = 0 ∧ ∃ k f sg pr, (I (x + 1 + 11 + 2 * tn w) 1 = nI k ∧ k ≤ 9 ∧ (∀ j, j < k → I ((x + 1 + 11 + 2 * tn w) + 1) j = nI (f j) ∧ f j < 2 ^ 31) ∧ I (x + 1 + 11 + 2 * tn w) 7 = nI sg ∧ sg < 2 ^ 31 ∧ (wl f k).1 ≤ 50 ∧ (sg = 2 → I (x + 1 + 11 + 2 * tn w) 9 = nI pr ∧ pr < 2 ^ 31)) ∧ (M_writeBarrel m w J).1 = nI (wb (wl f k) sg pr).1 ∧ ot m (wb (wl f k) sg pr).1 (wb (wl f k) sg pr).2 (M_writeBarrel m w J).2 ∧ (M_writeBarrel m w J).2 m 18 = nI 0 ∧ RR x m B I (M_writeBarrel m w J).2) ∨
    (A_barrelAt x w I = 3 ∧ (M_writeBarrel m w J).2 m 18 = nI 1 ∧ RR x m B I (M_writeBarrel m w J).2 ∧ (M_writeBarrel m w J).2 m 17 = J m 17 ∧ (M_writeBarrel m w J).2 (m + 6) = J (m + 6)) := by
  rcases bar_or (b := w) h with ⟨-, q1, q3, q4, q5, q6⟩ | ⟨-, q1, q3⟩
  · left
    refine ⟨q1, ?_⟩
    have h1 := RR_18 (y := nI 0) h
    have e7 : ow_u J m 18 (nI 0) (m + 1) = J (m + 1) := e18 (by omega)
    have z18 : ow_u J m 18 (nI 0) m 18 = nI 0 := ow_u_s _ _ _ _
    rw [← e7] at q6
    simp only [M_writeBarrel, lt_eq, q3]
    rw [if_neg (show ¬ false = true by decide)]
    generalize ow_u J m 18 (nI 0) = J1 at h1 z18 q6 ⊢
    have hv := h1.2.1.2.1
    have h7 := hv.2.2.1.2
    obtain ⟨d, hd, rfl⟩ := nI_ex q5 q6
    rw [tn_nI (by omega)]
    have rb := h1.2.1.1.2.2.2.2.2.2 d hd
    have ib := h1.2.1.2.2.2.2.1 d hd
    have v0 := hv.2.2.2.2.2.2.2.2.2 d hd
    obtain ⟨⟨r1, -, -, -⟩, r2, -, -, r7, -, r9⟩ := rb
    obtain ⟨-, ⟨sg, s1, s2⟩, i3, i4⟩ := ib
    obtain ⟨N, hN⟩ : ∃ N, N = tn (J1 (m + 1) (66 + 15 * d)) := ⟨_, rfl⟩
    have e0 : J1 (m + 1) (66 + 15 * d) = nI N := by rw [hN, nI_tn v0.1]
    have hN9 : N ≤ 9 := by rw [hN]; exact v0.2.2
    have hl : ∀ j, j < N → J1 (m + 1) (66 + 15 * d + (1 + j)) = nI (tn (J1 (m + 1) (66 + 15 * d + (1 + j)))) ∧ tn (J1 (m + 1) (66 + 15 * d + (1 + j))) ≤ 150 := fun j hj => by
      obtain ⟨l, l1, l2, l3⟩ := i4 j (by show j < tn (J1 (m + 1) (66 + 15 * d)); rw [← hN]; exact hj)
      have l1 : J1 (m + 1) (66 + 15 * d + (1 + j)) = nI l := l1
      rw [l1, tn_nI (by omega)]
      exact ⟨rfl, l3⟩
    obtain ⟨pr, hpr⟩ : ∃ pr, sg = 2 → J1 (m + 1) (66 + 15 * d + 14) = nI pr ∧ pr ≤ 99999 := by
      by_cases z : sg = 2
      · obtain ⟨c, c1, c2⟩ := i3 (by rw [s1, z])
        exact ⟨c, fun _ => ⟨c1, c2⟩⟩
      · exact ⟨0, fun y => absurd y z⟩
    have f17 : oF m J1 (ow_u J1 m 17 (nI 0)) := ⟨fun b z1 _ => rr_u z1, fun k hk => by rw [u_one, if_neg hk]⟩
    have e1 : ow_u J1 m 17 (nI 0) (m + 1) = J1 (m + 1) := rr_u (by omega)
    obtain ⟨J', k1, k2, k3⟩ := wb_loop (m := m) (f := fun j => tn (J1 (m + 1) (66 + 15 * d + (1 + j)))) (N := N) (sg := sg) (pr := pr) (b := d) hN9 (by omega) s2 (fun z => by have := (hpr z).2; omega) 10 0 (ow_u J1 m 17 (nI 0)) (Nat.zero_le _) (by omega) (by rw [e1, e0]) (fun j hj => by rw [e1]; exact ⟨(hl j hj).1, by have := (hl j hj).2; omega⟩) (by rw [e1]; exact s1) (fun z => by rw [e1]; exact (hpr z).1) (ot_start (ow_u_s _ _ _ _))
    have hb := (@wl_b (fun j => tn (J1 (m + 1) (66 + 15 * d + (1 + j)))) 3 N (fun j hj => dg_3 (by have := (hl j hj).2; omega))).1
    refine ⟨N, fun j => tn (J1 (m + 1) (66 + 15 * d + (1 + j))), sg, pr, ⟨?_, hN9, fun j hj => ⟨?_, by have := (hl j hj).2; show tn (J1 (m + 1) (66 + 15 * d + (1 + j))) < 2 ^ 31; omega⟩, ?_, by omega, by omega, fun z => ⟨?_, by have := (hpr z).2; omega⟩⟩, by rw [k1], by rw [k1]; exact k2, ?_, by rw [k1]; exact RR_out h1 (oF_t f17 k3)⟩
    · rw [r1]
      exact e0
    · rw [r2 j (by show j < tn (J1 (m + 1) (66 + 15 * d)); rw [← hN]; exact hj)]
      exact (hl j hj).1
    · rw [r7]
      exact s1
    · rw [r9]
      exact (hpr z).1
    · rw [k1]
      dsimp only
      rw [(oF_t f17 k3).2 18 (by decide), z18]
  · right
    simp only [M_writeBarrel, lt_eq, q3, if_true]
    refine ⟨q1, ow_u_s _ _ _ _, RR_18 (RR_18 h), ?_, ?_⟩
    · rw [u_one, if_neg (by decide), u_one, if_neg (by decide)]
    · rw [rr_u (by omega), rr_u (by omega)]
theorem q_outputByte {w : Int32} (h : RR x m B I J) (ho : ot m n t J) : (if 0 ≤ w ∧ tn w < n then nI (t (tn w)) else -1) = (M_outputByte m w J).1 ∧ (M_outputByte m w J).2 m 18 = nI 0 ∧ RR x m B I (M_outputByte m w J).2 ∧ ot m n t (M_outputByte m w J).2 := by
  obtain ⟨h1, h2, h3⟩ := ho
  have e17 : ow_u J m 18 (nI 0) m 17 = nI n := by rw [u_one, if_neg (by decide), h1]
  have e6 : ow_u J m 18 (nI 0) (m + 6) = J (m + 6) := rr_u (by omega)
  have z18 : ow_u J m 18 (nI 0) m 18 = nI 0 := ow_u_s _ _ _ _
  simp only [M_outputByte, lt_eq, e17, e6]
  have hr := RR_18 (y := nI 0) h
  have ho : ot m n t (ow_u J m 18 (nI 0)) := ⟨e17, h2, fun i hi => by rw [e6]; exact h3 i hi⟩
  by_cases c : w < 0
  · rw [if_pos c, if_neg (fun z => by
      have := z.1
      rw [Int32.le_iff_toInt_le] at this
      rw [Int32.lt_iff_toInt_lt] at c
      omega)]
    exact ⟨rfl, z18, hr, ho⟩
  · rw [if_neg c]
    have w0 : 0 ≤ w := i_nlt c
    obtain ⟨y, hy, rfl⟩ := nI_ex w0 (tn_lt w)
    rw [tn_nI hy]
    by_cases d : n ≤ y
    · rw [if_pos ((nI_leI (by omega) hy).mpr d), if_neg (fun z => by omega)]
      exact ⟨rfl, z18, hr, ho⟩
    · rw [if_neg (fun z => d ((nI_leI (by omega) hy).mp z)), if_pos ⟨w0, by omega⟩]
      exact ⟨(h3 y (by omega)).2.symm, z18, hr, ho⟩
end OUB
