/-! COMMANDS CARRIED OUT -/
section EXE
variable {p m a B : Nat} {I I' J J' : ow_I}
theorem rb_loop {A N P : Nat} : ∀ (k c : Nat) (Y : ow_I), c ≤ N → N ≤ 9 → N - c < k → tn (Y (m + 5) (A + 1)) = N + 1 → Y (m + 1) (66 + 15 * P) = nI c →
    ∃ Y', M_runBarrel_L29 m A k Y P (c + 1) = (true, Y') ∧ Y' (m + 1) = md_fill (Y (m + 1)) P c (fun j => Y (m + 5) (A + 2 + (c + 1 + j))) (N - c) ∧ ∀ b, b ≠ m + 1 → Y' b = Y b := by
  intro k
  induction k with
  | zero => intro c Y h1 h2 h3; omega
  | succ k ih =>
    intro c Y h1 h2 h3 h13 hc
    unfold M_runBarrel_L29
    rw [h13]
    by_cases d : N ≤ c
    · rw [if_pos (show N + 1 ≤ c + 1 by omega)]
      exact ⟨Y, rfl, by rw [show N - c = 0 by omega, fill_0 hc], fun _ _ => rfl⟩
    · rw [if_neg (show ¬ N + 1 ≤ c + 1 by omega), lt_eq]
      have q1 : tn (M_ofBarrel m P 0 Y) = c := by show tn (Y (m + 1) (66 + 15 * P)) = c; rw [hc, tn_nI (by omega)]
      have g1 : M_addEel m P (Y (m + 5) (A + 2 + (c + 1))) Y (m + 1) (66 + 15 * P) = nI (c + 1) := by
        simp (disch := omega) only [M_addEel, M_putBarrel, lt_eq, u_one, if_neg, if_pos, if_true, q1]
      obtain ⟨Y', e1, e2, e3⟩ := ih (c + 1) (M_addEel m P (Y (m + 5) (A + 2 + (c + 1))) Y) (by omega) h2 (by omega) (by rw [rr_addEel (by omega)]; exact h13) g1
      refine ⟨Y', e1, ?_, fun b hb => by rw [e3 b hb, rr_addEel hb]⟩
      rw [e2]
      have q3 := @fill_s m P c (N - (c + 1)) (fun j => Y (m + 5) (A + 2 + (c + 1 + j))) Y hc (by omega)
      rw [show N - (c + 1) + 1 = N - c by omega] at q3
      rw [← q3]
      congr 1
      funext j
      rw [rr_addEel (by omega)]
      exact congrArg (Y (m + 5)) (by omega)
theorem split_1 {b e : Nat} (he : e ≤ 8) : (M_splitNow m b e J).1 = tn (J (m + 1) 7) := by
  unfold M_splitNow
  rw [lt_eq, spl_1 _ _ _ _ _ _ _ (by omega), rdNB1]
theorem exec_eq {i nb : Nat} (h : st a m B I J) (hC : cmr p m i nb I J) (hn : tn (J (m + 1) 6) = nb) (hd : a + 51 ≤ p ∨ p + 46 ≤ a) (hi : i < 20) (hB : B < 2 ^ 29) :
    st a m (B + 200) (K_execute a (p + 6 + 2 * i) (tn (I (p + 6 + 2 * i) 0)) I).2 (M_execute m (13 * i) J).2 ∧ (K_execute a (p + 6 + 2 * i) (tn (I (p + 6 + 2 * i) 0)) I).1 = (M_execute m (13 * i) J).1 ∧ md_F m J (M_execute m (13 * i) J).2 := by
  obtain ⟨v, hv, c0, r0, hN, hBar⟩ := hC
  have h6 := h.2.1.2.1
  have h7 := h.2.1.2.2.1
  have up : ∀ {I J : ow_I}, st a m B I J → st a m (B + 200) I J := fun g => ⟨g.1, g.2.1, iv_m g.2.2 (by omega)⟩
  rw [c0, tn_nI (by omega)]
  have hv6 : v = 0 ∨ v = 1 ∨ v = 2 ∨ v = 3 ∨ v = 4 ∨ v = 5 := by omega
  unfold K_execute M_execute
  rcases hv6 with hz | hz | hz | hz | hz | hz <;> subst hz <;> rw [r0]
  · -- nod
    obtain ⟨⟨k, k1, k2, k3, -⟩, -⟩ := hN (by decide)
    have k2 : J (m + 5) (13 * i + 2) = nI k := k2
    have k3 := k3 rfl
    rw [if_pos (show nI (gl_sm 0) = nI (1 + 0) from rfl), if_neg (show ¬ nI (vw 0) = nI (2 + 0) by decide), if_pos (show nI (vw 0) = nI (2 + 1) from rfl), k1, k2, tn_nI (by omega)]
    have hb : K_hasBuyer a (nI k) I = true := (hb_eq h.1).mpr ⟨nI_ge0 (by omega), by rw [← nI_tn h6.1]; exact (nI_ltI (by omega) (by omega)).mpr (by omega)⟩
    rw [if_pos hb, ref_eq h.1 h.2.1 h.2.2 (by omega)]
    unfold M_runNod
    rcases reas_or (m := m) (b := k) (J := J) with r | r
    · rw [if_pos r, if_pos (by rw [r]; decide)]
      simp only [lt_eq]
      have h8 : 0 ≤ J (m + 1) 8 := RA_8 (by rw [r]; decide)
      exact ⟨up ⟨rl_nod h.1 h.2.1 h8 (by omega), V_nodNow h.2.1 h8 (by omega), iv_nod h.2.1 h.2.2 h8 (by omega) r⟩, (by first | trivial | rfl), F_nod (by omega)⟩
    · rw [if_neg (fun z => r (by rw [z]; decide)), if_neg r]
      simp only [lt_eq]
      exact ⟨up h, (by first | trivial | rfl), F_r⟩
  · -- wait
    obtain ⟨⟨k, k1, k2, -, k3, -⟩, -⟩ := hN (by decide)
    have k2 : J (m + 5) (13 * i + 2) = nI k := k2
    have k3 := k3 rfl
    rw [if_neg (show ¬ nI (gl_sm 1) = nI (1 + 0) by decide), if_pos (show nI (gl_sm 1) = nI (1 + 1) from rfl), if_neg (show ¬ nI (vw 1) = nI (2 + 0) by decide), if_neg (show ¬ nI (vw 1) = nI (2 + 1) by decide), if_pos (show nI (vw 1) = nI (2 + 2) from rfl), k1, k2, tn_nI (by omega)]
    simp only [lt_eq]
    have q := (st_let (n2 := k) h (by omega)).1
    exact ⟨⟨q.1, q.2.1, iv_m q.2.2 (by omega)⟩, (by first | trivial | rfl), F_passAll h.2.1⟩
  · -- split
    obtain ⟨⟨k, k1, k2, -, -, k3, -⟩, e0⟩ := hN (by decide)
    obtain ⟨e, e1, e2, e3, e4, -⟩ := e0 (Or.inl rfl)
    have k2 : J (m + 5) (13 * i + 2) = nI k := k2
    have e2 : J (m + 5) (13 * i + 3) = nI e := e2
    have k3 := k3 rfl
    have e4 := e4 rfl
    rw [if_neg (show ¬ nI (gl_sm 2) = nI (1 + 0) by decide), if_neg (show ¬ nI (gl_sm 2) = nI (1 + 1) by decide), if_pos (show nI (gl_sm 2) = nI (1 + 2) from rfl), if_neg (show ¬ nI (vw 2) = nI (2 + 0) by decide), if_neg (show ¬ nI (vw 2) = nI (2 + 1) by decide), if_neg (show ¬ nI (vw 2) = nI (2 + 2) by decide), if_pos (show nI (vw 2) = nI (2 + 3) from rfl), k1, e1, k2, e2, tn_nI (by omega)]
    have F := @F_runSplit m e (nI k) J h.2.1 e4
    have no : K_canCut a (nI k) (nI e) I = false → K_cut a (nI k) (nI e) I = (-1, I) := fun z => by
      unfold K_cut
      rw [if_neg (by rw [z]; decide)]
    unfold M_runSplit at F ⊢
    by_cases hb : M_isBarrel m (nI k) J = true
    · rw [if_pos hb] at F ⊢
      have ec := cut_eq h.1 h.2.1 hb ⟨e3, by omega⟩ (e := e)
      have hbk := (isB_tn h.2.1 hb).2
      rw [tn_nI (by omega)] at hbk ec F ⊢
      by_cases hc : M_canSplit m k e J = true
      · rw [if_pos hc] at F ⊢
        rw [hc] at ec
        obtain ⟨q1, q2⟩ := st_cut h hbk hc ⟨e3, e4⟩ ec
        simp only [lt_eq] at F ⊢
        have ns : ¬ (K_cut a (nI k) (nI e) I).1 = -1 := by
          rw [q2]
          exact nm1 (nI_ge0 (by rw [split_1 e4]; omega))
        rw [if_neg ns]
        exact ⟨up q1, (by first | trivial | rfl), F⟩
      · rw [if_neg hc] at F ⊢
        have hc : M_canSplit m k e J = false := by cases hq : M_canSplit m k e J with | true => exact absurd hq hc | false => rfl
        rw [hc] at ec
        rw [no ec]
        simp only [lt_eq]
        exact ⟨up h, (by first | trivial | rfl), F⟩
    · rw [if_neg hb] at F ⊢
      have ec : K_canCut a (nI k) (nI e) I = false := by
        unfold K_canCut K_isWaiting
        rw [wt_eq h.1, if_neg hb]
        rfl
      rw [no ec]
      simp only [lt_eq]
      exact ⟨up h, (by first | trivial | rfl), F⟩
  · -- pay
    obtain ⟨⟨k, k1, k2, -, -, -, k3, -⟩, e0⟩ := hN (by decide)
    obtain ⟨e, e1, e2, e3, -, e4⟩ := e0 (Or.inr rfl)
    have k2 : J (m + 5) (13 * i + 2) = nI k := k2
    have e2 : J (m + 5) (13 * i + 3) = nI e := e2
    have k3 := k3 rfl
    have e4 := e4 rfl
    rw [if_neg (show ¬ nI (gl_sm 3) = nI (1 + 0) by decide), if_neg (show ¬ nI (gl_sm 3) = nI (1 + 1) by decide), if_neg (show ¬ nI (gl_sm 3) = nI (1 + 2) by decide), if_pos (show nI (gl_sm 3) = nI (1 + 3) from rfl), if_neg (show ¬ nI (vw 3) = nI (2 + 0) by decide), if_neg (show ¬ nI (vw 3) = nI (2 + 1) by decide), if_neg (show ¬ nI (vw 3) = nI (2 + 2) by decide), if_neg (show ¬ nI (vw 3) = nI (2 + 3) by decide), if_pos (show nI (vw 3) = nI (2 + 4) from rfl), k1, e1, k2, e2, tn_nI (by omega)]
    simp only [lt_eq]
    exact ⟨up (st_fund h (by omega) ⟨e, rfl, e4⟩).1, (by first | trivial | rfl), F_fund (by omega)⟩
  · -- withdraw
    obtain ⟨⟨k, k1, k2, -, -, -, -, k3⟩, -⟩ := hN (by decide)
    have k2 : J (m + 5) (13 * i + 2) = nI k := k2
    have k3 := k3 rfl
    rw [if_neg (show ¬ nI (gl_sm 4) = nI (1 + 0) by decide), if_neg (show ¬ nI (gl_sm 4) = nI (1 + 1) by decide), if_neg (show ¬ nI (gl_sm 4) = nI (1 + 2) by decide), if_neg (show ¬ nI (gl_sm 4) = nI (1 + 3) by decide), if_pos (show nI (gl_sm 4) = nI (1 + 4) from rfl), if_neg (show ¬ nI (vw 4) = nI (2 + 0) by decide), if_neg (show ¬ nI (vw 4) = nI (2 + 1) by decide), if_neg (show ¬ nI (vw 4) = nI (2 + 2) by decide), if_neg (show ¬ nI (vw 4) = nI (2 + 3) by decide), if_neg (show ¬ nI (vw 4) = nI (2 + 4) by decide), if_pos (show nI (vw 4) = nI (2 + 5) from rfl), k1, k2]
    have F := @F_runWithdraw m (nI k) J h.2.1
    unfold M_runWithdraw at F ⊢
    by_cases hb : M_isBarrel m (nI k) J = true
    · rw [if_pos hb] at F ⊢
      have ew := wait_eq h.1 h.2.1 hb
      have hbk := (isB_tn h.2.1 hb).2
      rw [tn_nI (by omega)] at hbk ew F ⊢
      rw [ew]
      by_cases hc : M_isWaiting m k J = true
      · rw [if_pos hc] at F ⊢
        rw [if_pos hc]
        simp only [lt_eq] at F ⊢
        exact ⟨up (st_wdr h hbk hc).1, (by first | trivial | rfl), F⟩
      · rw [if_neg hc] at F ⊢
        rw [if_neg hc]
        simp only [lt_eq]
        exact ⟨up h, (by first | trivial | rfl), F⟩
    · rw [if_neg hb] at F ⊢
      have ew : K_isWaiting a (nI k) I = false := by
        unfold K_isWaiting
        rw [wt_eq h.1, if_neg hb]
      rw [ew, if_neg (show ¬ false = true by decide)]
      simp only [lt_eq]
      exact ⟨up h, (by first | trivial | rfl), F⟩
  · -- barrel
    obtain ⟨n, r, n1, n2, n3, n4, n5, n6, n7, n8, n9⟩ := hBar rfl
    have F := @F_runBarrel m (13 * i) J h.2.1 (by rw [n2, tn_nI (by omega)]; omega) (by rw [n2, tn_nI (by omega)]; omega)
    rw [if_neg (show ¬ nI (gl_sm 5) = nI (1 + 0) by decide), if_neg (show ¬ nI (gl_sm 5) = nI (1 + 1) by decide), if_neg (show ¬ nI (gl_sm 5) = nI (1 + 2) by decide), if_neg (show ¬ nI (gl_sm 5) = nI (1 + 3) by decide), if_neg (show ¬ nI (gl_sm 5) = nI (1 + 4) by decide), if_pos (show nI (vw 5) = nI (2 + 0) from rfl), n1, n5, tn_nI (by omega)]
    unfold M_runBarrel at F ⊢
    by_cases c : J (m + 1) 7 = nI 20
    · have hr : K_hasRoom a I = false := by
        unfold K_hasRoom
        rw [h.1.2.2.1.2.1, if_pos (by rw [c]; exact Int32.le_refl _)]
      have ek : K_takeBarrel a (nI r) (p + 6 + 2 * i + 1) 0 n I = (-1, I) := by
        unfold K_takeBarrel
        rw [if_neg (by rw [hr]; decide)]
      rw [if_pos c] at F ⊢
      rw [ek]
      simp only [lt_eq]
      exact ⟨up h, (by first | trivial | rfl), F⟩
    · rw [if_neg c] at F ⊢
      have h20 : tn (J (m + 1) 7) < 20 := by
        have := tn_ne h7.1 c
        omega
      have hn12 : tn (J (m + 1) 12) < 20 := mdV_qlt h.2.1 h20
      rw [lt_eq (M_newBarrel m (J (m + 5) (13 * i + 2)) J)] at F ⊢
      rw [n6, rdNB1] at F ⊢
      obtain ⟨Y', y1, y2, y3⟩ := @rb_loop m (13 * i) n (tn (J (m + 1) 7)) 11 0 (M_newBarrel m (nI r) J).2 (Nat.zero_le _) n4 (by omega) (by rw [rr_newBarrel (by omega), n2, tn_nI (by omega)]) (rdNB0 hn12)
      rw [y1] at F ⊢
      have src : (fun j => (M_newBarrel m (nI r) J).2 (m + 5) (13 * i + 2 + (0 + 1 + j))) = fun j => J (m + 5) (13 * i + 3 + j) := by
        funext j
        rw [rr_newBarrel (by omega)]
        exact congrArg (J (m + 5)) (by omega)
      rw [src, Nat.sub_zero] at y2
      obtain ⟨u1, u2⟩ := @rl_take a m I J (nI r) (p + 6 + 2 * i + 1) 0 n h.1 h.2.1 h20 (by omega) (by omega) n4 (fun j => J (m + 5) (13 * i + 3 + j)) (fun j hj => by
        obtain ⟨l, q1, q2, -⟩ := n9 j (by omega)
        rw [Nat.zero_add, q1, q2])
      rw [Nat.sub_zero] at u1
      have hV := V_nb (m := m) (I := J) (r := nI r) (src := fun j => J (m + 5) (13 * i + 3 + j)) (cnt := n) h.2.1 h20 n3 n4
      have hI := iv_take (m := m) (J := J) (B := B) (r := nI r) (src := fun j => J (m + 5) (13 * i + 3 + j)) (cnt := n) h.2.1 h.2.2 h20 n3 n4 ⟨r, rfl, n7, n8⟩ (fun j hj => by
        obtain ⟨l, -, q2, q3, q4⟩ := n9 j hj
        exact ⟨l, q2, q3, q4⟩)
      simp only [lt_eq]
      have ns : ¬ (K_takeBarrel a (nI r) (p + 6 + 2 * i + 1) 0 n I).1 = -1 := by
        rw [u2]
        exact nm1 (nI_ge0 (by omega))
      rw [if_neg ns]
      refine ⟨up ⟨?_, ?_, ?_⟩, (by first | trivial | rfl), F⟩
      · show rl a _ (Y' (m + 1))
        rw [y2]
        exact u1
      · show md_V (Y' (m + 1))
        rw [y2]
        exact hV
      · show iv B (Y' (m + 1))
        rw [y2]
        exact hI
end EXE
