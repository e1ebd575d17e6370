/-! a new barrel and a split: what holds of the block; the split -/
section RLK
variable {a m B b : Nat} {I J : ow_I}
theorem nb_c (r : Int32) (h12 : tn (J (m + 1) 12) < 20) (h7 : tn (J (m + 1) 7) < 20) (j : Nat) (hj : j < 6 ∨ j = 6 ∨ j = 8 ∨ j = 9 ∨ j = 10 ∨ j = 11 ∨ j = 13 ∨ (36 ≤ j ∧ (j < 66 + 15 * tn (J (m + 1) 7) ∨ 81 + 15 * tn (J (m + 1) 7) ≤ j))) : (M_newBarrel m r J).2 (m + 1) j = J (m + 1) j := by
  simp (disch := omega) only [M_newBarrel, M_enqueue, M_putBarrel, lt_eq, u_one, if_neg]
theorem nb_7 (r : Int32) (h12 : tn (J (m + 1) 12) < 20) : (M_newBarrel m r J).2 (m + 1) 7 = J (m + 1) 7 + nI 1 := by
  simp (disch := omega) only [M_newBarrel, M_enqueue, M_putBarrel, lt_eq, u_one, if_neg, if_true]
theorem nb_w (r : Int32) (h12 : tn (J (m + 1) 12) < 20) : (M_newBarrel m r J).2 (m + 1) (66 + 15 * tn (J (m + 1) 7) + 10) = r ∧ (M_newBarrel m r J).2 (m + 1) (66 + 15 * tn (J (m + 1) 7) + 12) = nI 0 := by
  simp (disch := omega) only [M_newBarrel, M_enqueue, M_putBarrel, lt_eq, u_one, if_neg, if_true, and_self]
theorem iv_take {r : Int32} {src : Nat → Int32} {cnt : Nat} (hv : md_V (J (m + 1))) (hi : iv B (J (m + 1))) (h7 : tn (J (m + 1) 7) < 20) (h1 : 1 ≤ cnt) (h9 : cnt ≤ 9) (hr : ∃ x : Nat, r = nI x ∧ 1 ≤ x ∧ x ≤ 999) (hs : ∀ j, j < cnt → ∃ x : Nat, src j = nI x ∧ 10 ≤ x ∧ x ≤ 150) : iv B (md_fill ((M_newBarrel m r J).2 (m + 1)) (tn (J (m + 1) 7)) 0 src cnt) := by
  have h6 := hv.2.1.2.2
  have h7p := hv.2.2.1.1
  have h12 := hv.2.2.2.2.2.1
  have hq7 := hv
  rw [md_V_eq] at hq7
  have hq := VV_qle hq7
  have i7 := tn_inc h7p (by omega)
  have hm8 := mV8 hv
  have hm10 := mV10 hv
  have hc := nb_c (m := m) (J := J) r (by omega) h7
  have n7 := nb_7 (m := m) (J := J) r (by omega)
  obtain ⟨w10, w12⟩ := nb_w (m := m) (J := J) r (by omega)
  obtain ⟨hH, hY, hK, hO, hL, sc, e13, hsc⟩ := hi
  generalize (M_newBarrel m r J).2 (m + 1) = A at hc n7 w10 w12
  have fo : ∀ k, (k < 66 + 15 * tn (J (m + 1) 7) ∨ 67 + 15 * tn (J (m + 1) 7) + 0 + cnt ≤ k) → md_fill A (tn (J (m + 1) 7)) 0 src cnt k = A k := fun k hk => fill_o hk
  have fw0 : md_fill A (tn (J (m + 1) 7)) 0 src cnt (66 + 15 * tn (J (m + 1) 7)) = nI cnt := by
    unfold md_fill
    rw [if_pos rfl, Nat.zero_add]
  have fwe : ∀ q, q < cnt → md_fill A (tn (J (m + 1) 7)) 0 src cnt (66 + 15 * tn (J (m + 1) 7) + (1 + q)) = src q := by
    intro q hq
    unfold md_fill
    rw [if_neg (by omega), if_pos (by omega)]
    congr 1
    omega
  generalize md_fill A (tn (J (m + 1) 7)) 0 src cnt = g at fo fw0 fwe
  have gc : ∀ j, (j < 6 ∨ j = 6 ∨ j = 8 ∨ j = 9 ∨ j = 10 ∨ j = 11 ∨ j = 13 ∨ (36 ≤ j ∧ (j < 66 + 15 * tn (J (m + 1) 7) ∨ 81 + 15 * tn (J (m + 1) 7) ≤ j))) → g j = J (m + 1) j := fun j hj => by rw [fo j (by omega), hc j hj]
  have g7 : g 7 = J (m + 1) 7 + nI 1 := by rw [fo 7 (by omega), n7]
  have t7 : tn (g 7) = tn (J (m + 1) 7) + 1 := by rw [g7, i7.2]
  have g12 : g (66 + 15 * tn (J (m + 1) 7) + 12) = nI 0 := by rw [fo _ (by omega), w12]
  refine ⟨iH_c hH (fun j hj => gc j (by omega)), iY_c hY h6 (gc 6 (by omega)) (fun i hi => gc _ (by omega)), fun k hk => ?_, fun z => ?_, fun z => ?_, sc, by rw [gc 13 (by omega)]; exact e13, ?_⟩
  · rw [t7] at hk
    by_cases d : k = tn (J (m + 1) 7)
    · rw [d]
      obtain ⟨x, ex, x1, x2⟩ := hr
      refine ⟨⟨x, ?_, x1, x2⟩, ⟨0, g12, by decide⟩, fun z => ?_, fun q hq => ?_⟩
      · show g (66 + 15 * tn (J (m + 1) 7) + 10) = nI x
        rw [fo _ (by omega), w10, ex]
      · have z : g (66 + 15 * tn (J (m + 1) 7) + 12) = nI 2 := z
        rw [g12] at z
        exact absurd z (by decide)
      · have hq : q < tn (g (66 + 15 * tn (J (m + 1) 7))) := hq
        rw [fw0, tn_nI (by omega)] at hq
        show ∃ x : Nat, g (66 + 15 * tn (J (m + 1) 7) + (1 + q)) = nI x ∧ _
        rw [fwe q hq]
        exact hs q hq
    · refine iB_c (hK k (by omega)) (hv.2.2.2.2.2.2.2.2.2 k (by omega)).2.2 (fun w hw => gc _ (by omega))
  · rw [gc 8 (by omega)] at z ⊢
    have hk := rl_open (a := 0) (I := J) hv z
    rw [gc _ (by omega), gc 11 (by omega), gc 2 (by omega)]
    exact hO z
  · rw [gc 10 (by omega)] at z ⊢
    have hk := rl_lead hv z
    rw [gc 9 (by omega), gc 4 (by omega), gc _ (by omega)]
    exact hL z
  · rw [t7]
    have e : sdN g (tn (J (m + 1) 7) + 1) = sdN (J (m + 1)) (tn (J (m + 1) 7)) := by
      show (if g (66 + 15 * tn (J (m + 1) 7) + 12) = nI 2 then sdN g (tn (J (m + 1) 7)) + 1 else sdN g (tn (J (m + 1) 7))) = _
      rw [g12, if_neg (by decide)]
      exact sdN_c _ (fun k hk => by rw [gc _ (by omega)])
    rw [e]
    exact hsc
/-- a barrel keeps its first eels, and gets another reserve -/
theorem rl_keep {f g : Nat → Int32} {T : Nat} {x : Int32} (h : rl a I f) (hv : md_V f) (hb : b < tn (f 7)) (hT : T ≤ tn (f (66 + 15 * b))) (hg : ∀ j, g j = if j = 66 + 15 * b + 10 then x else if j = 66 + 15 * b then nI T else f j) : rl a (ow_u (B_fill (a + 11 + 2 * b) (a + 11 + 2 * b + 1) 0 T I) (a + 11 + 2 * b) 5 x) g := by
  have h6 := hv.2.1.2.2
  have h7 := hv.2.2.1.2
  have h12 := hv.2.2.2.2.2.1.2
  have he := (hv.2.2.2.2.2.2.2.2.2 b hb).2.2
  obtain ⟨⟨t1, t2, t3⟩, ⟨s1, s2, s3, s4, s5, s6⟩, ⟨c1, c2, c3⟩, ⟨b1, b2, b3, b4⟩, hY, hQ, hB⟩ := h
  have hk0 := hB b hb
  obtain ⟨q0, ⟨q1, q2, q3, q4⟩, q5, q6⟩ := @fl_all (a + 11 + 2 * b) I (a + 11 + 2 * b + 1) 0 T (Or.inr ⟨rfl, rfl⟩) (Nat.zero_le _) (by omega)
  rw [Nat.sub_zero] at q1 q2 q3 q4 q6
  have hg9 : ∀ j, j < T → (fun j => I (a + 11 + 2 * b + 1) (0 + j)) j = (fun j => f (66 + 15 * b + (1 + j))) j := fun j hj => by
    show I (a + 11 + 2 * b + 1) (0 + j) = f (66 + 15 * b + (1 + j))
    rw [Nat.zero_add]
    exact hk0.2.1 j (Nat.lt_of_lt_of_le hj hT)
  obtain ⟨p1, p2, p3⟩ := tot_s hg9
  have er : ∀ q, q ≠ a + 11 + 2 * b → q ≠ a + 11 + 2 * b + 1 → B_fill (a + 11 + 2 * b) (a + 11 + 2 * b + 1) 0 T I q = I q := q0
  have eo : ∀ j, j < 66 → g j = f j := fun j hj => by rw [hg j, if_neg (by omega), if_neg (by omega)]
  refine ⟨⟨?_, ?_, ?_⟩, ⟨?_, ?_, ?_, ?_, ?_, ?_⟩, ⟨?_, ?_, ?_⟩, ⟨?_, ?_, ?_, ?_⟩, rY_c hY h6 (eo 6 (by omega)) (fun j _ _ => eo j (by omega)) (fun q _ _ => ?_), rQ_c hQ h12 (eo 12 (by omega)) (fun j _ _ => eo j (by omega)) ?_, rB_1 (k0 := b) hB hv (eo 7 (by omega)) (fun j _ _ _ => ?_) (fun q _ _ _ _ => ?_) (fun _ => ?_)⟩
  rotate_left 20
  · have w0 : g (66 + 15 * b + 0) = nI T := by rw [hg, if_neg (by omega), if_pos (by omega)]
    have wt : tn (g (66 + 15 * b + 0)) = T := by rw [w0, tn_nI (by omega)]
    have w1 : ∀ j, j < T → (fun j => g (66 + 15 * b + (1 + j))) j = (fun j => f (66 + 15 * b + (1 + j))) j := fun j hj => by
      show g (66 + 15 * b + (1 + j)) = f (66 + 15 * b + (1 + j))
      rw [hg, if_neg (by omega), if_neg (by omega)]
    obtain ⟨u1, u2, u3⟩ := tot_s w1
    refine ⟨⟨?_, ?_, ?_, ?_⟩, fun q hq => ?_, ?_, ?_, ?_, ?_, ?_⟩
    · show _ = g (66 + 15 * b + 0)
      rw [w0]
      simp (disch := omega) only [u_one, rr_u, if_neg, if_pos, if_true]
      exact q1
    · show _ = sumL (fun j => g (66 + 15 * b + (1 + j))) (tn (g (66 + 15 * b + 0)))
      rw [wt, u1]
      refine Eq.trans ?_ (q2.trans p1)
      simp (disch := omega) only [u_one, rr_u, if_neg, if_pos, if_true]
    · show _ = maxL (fun j => g (66 + 15 * b + (1 + j))) (tn (g (66 + 15 * b + 0)))
      rw [wt, u2]
      refine Eq.trans ?_ (q3.trans p2)
      simp (disch := omega) only [u_one, rr_u, if_neg, if_pos, if_true]
    · show _ = nI (lonL (fun j => g (66 + 15 * b + (1 + j))) (tn (g (66 + 15 * b + 0))))
      rw [wt, u3]
      refine Eq.trans ?_ (q4.trans (congrArg nI p3))
      simp (disch := omega) only [u_one, rr_u, if_neg, if_pos, if_true]
    · have hq : q < tn (g (66 + 15 * b + 0)) := hq
      rw [wt] at hq
      show _ = g (66 + 15 * b + (1 + q))
      have w1q : g (66 + 15 * b + (1 + q)) = f (66 + 15 * b + (1 + q)) := w1 q hq
      have g9q : I (a + 11 + 2 * b + 1) (0 + q) = f (66 + 15 * b + (1 + q)) := hg9 q hq
      rw [w1q]
      simp (disch := omega) only [u_one, rr_u, if_neg, if_pos, if_true]
      rw [q6 q, if_pos hq]
      exact g9q
    · show _ = g (66 + 15 * b + 10)
      rw [hg, if_pos rfl]
      simp (disch := omega) only [u_one, rr_u, if_neg, if_pos, if_true]
    · show _ = g (66 + 15 * b + 11)
      rw [hg, if_neg (by omega), if_neg (by omega)]
      simp (disch := omega) only [u_one, rr_u, if_neg, if_pos, if_true]
      rw [q5 6 (by omega)]
      exact hk0.2.2.2.1
    · show _ = g (66 + 15 * b + 12)
      rw [hg, if_neg (by omega), if_neg (by omega)]
      simp (disch := omega) only [u_one, rr_u, if_neg, if_pos, if_true]
      rw [q5 7 (by omega)]
      exact hk0.2.2.2.2.1
    · show _ = g (66 + 15 * b + 13)
      rw [hg, if_neg (by omega), if_neg (by omega)]
      simp (disch := omega) only [u_one, rr_u, if_neg, if_pos, if_true]
      rw [q5 8 (by omega)]
      exact hk0.2.2.2.2.2.1
    · show _ = g (66 + 15 * b + 14)
      rw [hg, if_neg (by omega), if_neg (by omega)]
      simp (disch := omega) only [u_one, rr_u, if_neg, if_pos, if_true]
      rw [q5 9 (by omega)]
      exact hk0.2.2.2.2.2.2
  all_goals (try (simp (disch := omega) only [rr_u, er, eo, hg, if_neg]; done))
  all_goals (try (simp (disch := omega) only [rr_u, er, eo, if_neg]; assumption))
end RLK
