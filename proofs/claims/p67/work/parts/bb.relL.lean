/-! a barrel split -/
section RLL
variable {a m B b : Nat} {I J : ow_I}
theorem one_eq {v : Int32} {I' : ow_I} : i_max v (nI 1) = M_atLeastOne v I' := by
  unfold i_max M_atLeastOne
  by_cases c : v < nI 1
  · rw [if_pos c, if_neg (fun z => by rw [Int32.le_iff_toInt_le] at z; rw [Int32.lt_iff_toInt_lt] at c; omega)]
  · rw [if_neg c, if_pos (i_nlt c)]
theorem wt_eq {x : Int32} (h : rl a I (J (m + 1))) : K_hasBarrel a x I = M_isBarrel m x J := by
  unfold K_hasBarrel M_isBarrel
  rw [h.2.2.1.2.1]
theorem isB_tn {x : Int32} (hv : md_V (J (m + 1))) (h : M_isBarrel m x J = true) : 0 ≤ x ∧ tn x < tn (J (m + 1) 7) := by
  unfold M_isBarrel at h
  by_cases c : x < 0
  · rw [if_pos c] at h
    exact absurd h (by decide)
  · rw [if_neg c] at h
    by_cases d : J (m + 1) 7 ≤ x
    · rw [if_pos d] at h
      exact absurd h (by decide)
    · exact ⟨i_nlt c, (lt_tn (i_lt d) (i_nlt c)).2⟩
theorem wait_eq {x : Int32} (h : rl a I (J (m + 1))) (hv : md_V (J (m + 1))) (hb : M_isBarrel m x J = true) : K_isWaiting a x I = M_isWaiting m (tn x) J := by
  have hx := isB_tn hv hb
  unfold K_isWaiting M_isWaiting
  rw [wt_eq h, if_pos hb, (h.2.2.2.2.2.2 _ hx.2).2.2.2.2.1]
  rfl
theorem room_eq (h : rl a I (J (m + 1))) : K_hasRoom a I = true ↔ ¬ nI 20 ≤ J (m + 1) 7 := by
  unfold K_hasRoom
  rw [h.2.2.1.2.1]
  by_cases c : nI 20 ≤ J (m + 1) 7
  · rw [if_pos c]
    exact ⟨fun z => absurd z (by decide), fun z => absurd c z⟩
  · rw [if_neg c]
    exact ⟨fun _ => c, fun _ => rfl⟩
theorem cut_eq {x : Int32} {e : Nat} (h : rl a I (J (m + 1))) (hv : md_V (J (m + 1))) (hb : M_isBarrel m x J = true) (he : 1 ≤ e ∧ e < 2 ^ 31) : K_canCut a x (nI e) I = M_canSplit m (tn x) e J := by
  have hx := isB_tn hv hb
  unfold K_canCut M_canSplit
  rw [wait_eq h hv hb]
  by_cases c : M_isWaiting m (tn x) J = true
  · rw [if_pos c, if_pos c, if_neg (fun z => by have := (Int32.lt_iff_toInt_lt).mp z; have := (Int32.le_iff_toInt_le).mp ((nI_leI (by decide) he.2).mpr he.1); omega)]
    have e1 : I (a + 11 + 2 * tn x) 1 = M_ofBarrel m (tn x) 0 J := (h.2.2.2.2.2.2 _ hx.2).1.1
    rw [e1]
    by_cases d : M_ofBarrel m (tn x) 0 J ≤ nI e
    · rw [if_pos d, if_pos d]
    · rw [if_neg d, if_neg d]
      by_cases g : nI 20 ≤ J (m + 1) 7
      · rw [if_pos g, if_neg (fun z => (room_eq h).mp z g)]
      · rw [if_neg g, if_pos ((room_eq h).mpr g)]
  · rw [if_neg c, if_neg c]
theorem sp_loop {e n3 p : Nat} {r4 s5 : Int32} (hpb : p ≠ b) (h9 : n3 ≤ 9) (src : Nat → Int32) : ∀ (n j c : Nat) (Y : ow_I), j ≤ n3 → n3 - j < n → Y (m + 1) (66 + 15 * p) = nI c → c + (n3 - j) ≤ 9 → (∀ q, q < 9 → Y (m + 1) (66 + 15 * b + (1 + q)) = src q) →
    (M_splitNow_L40 m b e n Y n3 r4 s5 p j).1 = p ∧ ∀ k, (M_splitNow_L40 m b e n Y n3 r4 s5 p j).2 (m + 1) k = if k = 66 + 15 * b + 10 then M_atLeastOne (r4 - s5) Y else if k = 66 + 15 * b then nI (n3 - e) else md_fill (Y (m + 1)) p c (fun i => src (j + i)) (n3 - j) k := by
  intro n
  induction n with
  | zero => intro j c Y _ h; omega
  | succ n ih =>
    intro j c Y hj hn hc h2 hs
    unfold M_splitNow_L40
    by_cases d : n3 ≤ j
    · rw [if_pos d]
      simp only [lt_eq, M_putBarrel]
      refine ⟨trivial, fun k => ?_⟩
      rw [u_one, u_one, show n3 - j = 0 by omega, fill_0 hc]
      rfl
    · rw [if_neg d, lt_eq]
      have hsj : M_lengthOf m b j Y = src j := hs j (by omega)
      rw [hsj]
      have g1 : M_addEel m p (src j) Y (m + 1) (66 + 15 * p) = nI (c + 1) := by
        have q1 : tn (M_ofBarrel m p 0 Y) = c := by show tn (Y (m + 1) (66 + 15 * p)) = c; rw [hc, tn_nI (by omega)]
        simp (disch := omega) only [M_addEel, M_putBarrel, lt_eq, u_one, if_neg, if_pos, if_true, q1]
      have g2 : ∀ q, q < 9 → M_addEel m p (src j) Y (m + 1) (66 + 15 * b + (1 + q)) = src q := by
        intro q hq
        have q1 : tn (M_ofBarrel m p 0 Y) = c := by show tn (Y (m + 1) (66 + 15 * p)) = c; rw [hc, tn_nI (by omega)]
        simp (disch := omega) only [M_addEel, M_putBarrel, lt_eq, u_one, if_neg, q1]
        exact hs q hq
      obtain ⟨q1, q2⟩ := ih (j + 1) (c + 1) (M_addEel m p (src j) Y) (by omega) (by omega) g1 (by omega) g2
      refine ⟨q1, fun k => ?_⟩
      rw [q2 k]
      have q3 := @fill_s m p c (n3 - (j + 1)) (fun i => src (j + i)) Y hc (by omega)
      rw [show n3 - (j + 1) + 1 = n3 - j by omega] at q3
      rw [← q3]
      have q4 : (fun i => src (j + 1 + i)) = (fun i => (fun i => src (j + i)) (i + 1)) := by
        funext i
        show src (j + 1 + i) = src (j + (i + 1))
        congr 1
        omega
      rw [q4]
      rfl
theorem iv_keep {f g : Nat → Int32} {T : Nat} {x : Int32} (hi : iv B f) (hv : md_V f) (hb : b < tn (f 7)) (hT : T ≤ tn (f (66 + 15 * b))) (hx : ∃ y : Nat, x = nI y ∧ 1 ≤ y ∧ y ≤ 999) (hg : ∀ j, g j = if j = 66 + 15 * b + 10 then x else if j = 66 + 15 * b then nI T else f j) : iv B g := by
  have h6 := hv.2.1.2.2
  have h7 := hv.2.2.1.2
  have he := (hv.2.2.2.2.2.2.2.2.2 b hb).2.2
  have hm8 := mV8 hv
  have hm10 := mV10 hv
  obtain ⟨hH, hY, hK, hO, hL, hS⟩ := hi
  have gc : ∀ j, j ≠ 66 + 15 * b + 10 → j ≠ 66 + 15 * b → g j = f j := fun j h1 h2 => by rw [hg, if_neg h1, if_neg h2]
  refine ⟨iH_c hH (fun j _ => gc j (by omega) (by omega)), iY_c hY h6 (gc 6 (by omega) (by omega)) (fun i _ => gc _ (by omega) (by omega)), iK_1 (k0 := b) hK hv (gc 7 (by omega) (by omega)) (fun j _ _ _ => gc j (by omega) (by omega)) (fun _ => ?_), fun z => ?_, fun z => ?_, iS_c hS h7 (gc 13 (by omega) (by omega)) (gc 7 (by omega) (by omega)) (fun k _ => by rw [gc _ (by omega) (by omega)])⟩
  · obtain ⟨-, k2, k3, k4⟩ := hK b hb
    obtain ⟨y, ey, y1, y2⟩ := hx
    refine ⟨⟨y, ?_, y1, y2⟩, ?_, fun z => ?_, fun q hq => ?_⟩
    · show g (66 + 15 * b + 10) = nI y
      rw [hg, if_pos rfl, ey]
    · show ∃ s : Nat, g (66 + 15 * b + 12) = nI s ∧ s ≤ 3
      rw [gc _ (by omega) (by omega)]
      exact k2
    · have z : g (66 + 15 * b + 12) = nI 2 := z
      rw [gc _ (by omega) (by omega)] at z
      show ∃ c : Nat, g (66 + 15 * b + 14) = nI c ∧ c ≤ 99999
      rw [gc _ (by omega) (by omega)]
      exact k3 z
    · have hq : q < tn (g (66 + 15 * b)) := hq
      rw [hg, if_neg (by omega), if_pos rfl, tn_nI (by omega)] at hq
      show ∃ x : Nat, g (66 + 15 * b + (1 + q)) = nI x ∧ _
      rw [gc _ (by omega) (by omega)]
      exact k4 q (Nat.lt_of_lt_of_le hq hT)
  · rw [gc 8 (by omega) (by omega)] at z ⊢
    rw [gc _ (by omega) (by omega), gc 11 (by omega) (by omega), gc 2 (by omega) (by omega)]
    exact hO z
  · rw [gc 10 (by omega) (by omega)] at z ⊢
    have hl := rl_lead hv z
    rw [gc 9 (by omega) (by omega), gc 4 (by omega) (by omega), gc _ (by omega) (by omega)]
    exact hL z
theorem alo_N {y : Nat} {I' : ow_I} (h : y ≤ 999) : ∃ z : Nat, M_atLeastOne (nI y) I' = nI z ∧ 1 ≤ z ∧ z ≤ 999 := by
  unfold M_atLeastOne
  by_cases c : nI 1 ≤ nI y
  · rw [if_pos c]
    exact ⟨y, rfl, (nI_leI (by decide) (by omega)).mp c, h⟩
  · rw [if_neg c]
    exact ⟨1, rfl, by decide, by decide⟩
theorem st_cut {e : Nat} (h : st a m B I J) (hb : b < tn (J (m + 1) 7)) (hc : M_canSplit m b e J = true) (he : 1 ≤ e ∧ e ≤ 8) (hK : K_canCut a (nI b) (nI e) I = true) :
    st a m B (K_cut a (nI b) (nI e) I).2 (M_splitNow m b e J).2 ∧ (K_cut a (nI b) (nI e) I).1 = nI (M_splitNow m b e J).1 := by
  obtain ⟨hr, hv, hi⟩ := h
  have h7b := hv.2.2.1
  have h12 := hv.2.2.2.2.2.1
  have hk0 := hr.2.2.2.2.2.2 b hb
  have heb := hv.2.2.2.2.2.2.2.2.2 b hb
  have hik := hi.2.2.1 b hb
  have hVS := hv
  -- what canSplit says
  unfold M_canSplit at hc
  have hw : M_isWaiting m b J = true := by
    by_cases c : M_isWaiting m b J = true
    · exact c
    · rw [if_neg c] at hc
      exact absurd hc (by decide)
  rw [if_pos hw] at hc
  have hT : e < tn (J (m + 1) (66 + 15 * b)) := by
    by_cases c : M_ofBarrel m b 0 J ≤ nI e
    · rw [if_pos c] at hc
      exact absurd hc (by decide)
    · have c2 : nI e < M_ofBarrel m b 0 J := i_lt c
      have := (lt_tn c2 (nI_ge0 (by omega))).2
      rw [tn_nI (by omega)] at this
      exact this
  have h20 : tn (J (m + 1) 7) < 20 := by
    by_cases c : M_ofBarrel m b 0 J ≤ nI e
    · rw [if_pos c] at hc
      exact absurd hc (by decide)
    · rw [if_neg c] at hc
      by_cases d : nI 20 ≤ J (m + 1) 7
      · rw [if_pos d] at hc
        exact absurd hc (by decide)
      · have := (lt_tn (i_lt d) h7b.1).2
        rw [tn_nI (by decide)] at this
        exact this
  obtain ⟨⟨r, er, r1, r2⟩, -, -, hlen⟩ := hik
  have er : J (m + 1) (66 + 15 * b + 10) = nI r := er
  have e5 : I (a + 11 + 2 * b) 5 = J (m + 1) (66 + 15 * b + 10) := hk0.2.2.1
  have e1 : I (a + 11 + 2 * b) 1 = J (m + 1) (66 + 15 * b) := hk0.1.1
  have hbn : b < 2 ^ 31 := by omega
  have hre : r * e ≤ 999 * 8 := Nat.mul_le_mul r2 he.2
  generalize hTT : tn (J (m + 1) (66 + 15 * b)) = T at *
  have hTv : nI T = J (m + 1) (66 + 15 * b) := by rw [← hTT]; exact nI_tn heb.1
  have hdiv : r * e / T ≤ r := by
    refine Nat.div_le_of_le_mul ?_
    rw [Nat.mul_comm T r]
    exact Nat.mul_le_mul_left r (by omega)
  have ev : (nI r * nI e) / nI T = nI (r * e / T) := by rw [nI_ml, pk_div (by omega) (by omega) (by omega)]
  have hn12 : tn (J (m + 1) 12) < 20 := by
    have hq7 := hv
    rw [md_V_eq] at hq7
    have := VV_qle hq7
    omega
  obtain ⟨z1, ez1, z11, z12⟩ := @alo_N (r * e / T) J (by omega)
  obtain ⟨z2, ez2, z21, z22⟩ := @alo_N (r - r * e / T) J (Nat.le_trans (Nat.sub_le _ _) r2)
  have hsrc : ∀ j, j < T - (T - e) → (fun j => J (m + 1) (66 + 15 * b + (1 + (T - e + j)))) j = I (a + 11 + 2 * b + 1) (T - e + j) := fun j hj => (hk0.2.1 _ (by show T - e + j < tn (J (m + 1) (66 + 15 * b)); rw [hTT]; omega)).symm
  have hte : T - (T - e) = e := by omega
  obtain ⟨t1, t2⟩ := @rl_take a m I J (M_atLeastOne (nI (r * e / T)) J) (a + 11 + 2 * b + 1) (T - e) T hr hv h20 (Or.inr (Or.inr ⟨b, hb, rfl⟩)) (by omega) heb.2.2 (fun j => J (m + 1) (66 + 15 * b + (1 + (T - e + j)))) hsrc
  rw [hte] at t1
  have v1 := V_nb (m := m) (I := J) (r := M_atLeastOne (nI (r * e / T)) J) (src := fun j => J (m + 1) (66 + 15 * b + (1 + (T - e + j)))) (cnt := e) hv h20 he.1 (by omega)
  have i1 := iv_take (m := m) (J := J) (r := M_atLeastOne (nI (r * e / T)) J) (src := fun j => J (m + 1) (66 + 15 * b + (1 + (T - e + j)))) (cnt := e) hv hi h20 he.1 (by omega) ⟨z1, ez1, z11, z12⟩ (fun j hj => hlen (T - e + j) (show T - e + j < T by omega))
  have nc := nb_c (m := m) (J := J) (M_atLeastOne (nI (r * e / T)) J) hn12 h20
  have n7 := nb_7 (m := m) (J := J) (M_atLeastOne (nI (r * e / T)) J) hn12
  have n0 : (M_newBarrel m (M_atLeastOne (nI (r * e / T)) J) J).2 (m + 1) (66 + 15 * tn (J (m + 1) 7)) = nI 0 := rdNB0 hn12
  have nr := rdNB1 (m := m) (r := M_atLeastOne (nI (r * e / T)) J) (I := J)
  have eM : M_splitNow m b e J = M_splitNow_L40 m b e 10 (M_newBarrel m (M_atLeastOne (nI (r * e / T)) J) J).2 T (nI r) (nI (r * e / T)) (M_newBarrel m (M_atLeastOne (nI (r * e / T)) J) J).1 (T - e) := by
    have q0 : tn (M_ofBarrel m b 0 J) = T := hTT
    have q1 : M_ofBarrel m b 10 J = nI r := er
    simp only [M_splitNow, lt_eq, q0, q1, ev]
  have eK : K_cut a (nI b) (nI e) I = ((K_takeBarrel a (M_atLeastOne (nI (r * e / T)) J) (a + 11 + 2 * b + 1) (T - e) T I).1, ow_u (B_fill (a + 11 + 2 * b) (a + 11 + 2 * b + 1) 0 (T - e) (K_takeBarrel a (M_atLeastOne (nI (r * e / T)) J) (a + 11 + 2 * b + 1) (T - e) T I).2) (a + 11 + 2 * b) 5 (i_max (B_fill (a + 11 + 2 * b) (a + 11 + 2 * b + 1) 0 (T - e) (K_takeBarrel a (M_atLeastOne (nI (r * e / T)) J) (a + 11 + 2 * b + 1) (T - e) T I).2 (a + 11 + 2 * b) 5 - nI (r * e / T)) (nI 1))) := by
    simp only [K_cut, if_pos hK, lt_eq, B_keepFirst, tn_nI hbn, tn_nI (show e < 2 ^ 31 by omega), e5, e1, er, hTT, ev, one_eq (I' := J)]
  rw [eK, eM]
  obtain ⟨l1, l2⟩ := @sp_loop m b e T (tn (J (m + 1) 7)) (nI r) (nI (r * e / T)) (by omega) heb.2.2 (fun q => J (m + 1) (66 + 15 * b + (1 + q))) 10 (T - e) 0 (M_newBarrel m (M_atLeastOne (nI (r * e / T)) J) J).2 (by omega) (by omega) n0 (by omega) (fun q hq => nc _ (by omega))
  rw [nr]
  rw [hte] at l2
  generalize (M_newBarrel m (M_atLeastOne (nI (r * e / T)) J) J).2 = Y at t1 v1 i1 nc n7 n0 l1 l2 ⊢
  generalize K_takeBarrel a (M_atLeastOne (nI (r * e / T)) J) (a + 11 + 2 * b + 1) (T - e) T I = R at t1 t2 ⊢
  have fo : ∀ k, k < 66 + 15 * tn (J (m + 1) 7) → md_fill (Y (m + 1)) (tn (J (m + 1) 7)) 0 (fun j => J (m + 1) (66 + 15 * b + (1 + (T - e + j)))) e k = Y (m + 1) k := fun k hk => fill_o (Or.inl hk)
  have f7 : tn (md_fill (Y (m + 1)) (tn (J (m + 1) 7)) 0 (fun j => J (m + 1) (66 + 15 * b + (1 + (T - e + j)))) e 7) = tn (J (m + 1) 7) + 1 := by
    rw [fo 7 (by omega), n7]
    exact (tn_inc h7b.1 (by omega)).2
  have fb : md_fill (Y (m + 1)) (tn (J (m + 1) 7)) 0 (fun j => J (m + 1) (66 + 15 * b + (1 + (T - e + j)))) e (66 + 15 * b) = nI T := by rw [fo _ (by omega), nc _ (by omega), hTv]
  have fr : md_fill (Y (m + 1)) (tn (J (m + 1) 7)) 0 (fun j => J (m + 1) (66 + 15 * b + (1 + (T - e + j)))) e (66 + 15 * b + 10) = nI r := by rw [fo _ (by omega), nc _ (by omega), er]
  have kb := t1.2.2.2.2.2.2 b (by rw [f7]; omega)
  have q5 : B_fill (a + 11 + 2 * b) (a + 11 + 2 * b + 1) 0 (T - e) R.2 (a + 11 + 2 * b) 5 = nI r := by
    have h9 := (@fl_all (a + 11 + 2 * b) R.2 (a + 11 + 2 * b + 1) 0 (T - e) (Or.inr ⟨rfl, rfl⟩) (Nat.zero_le _) (by omega)).2.2.1 5 (by omega)
    rw [h9, ← fr]
    exact kb.2.2.1
  have hx5 : i_max (B_fill (a + 11 + 2 * b) (a + 11 + 2 * b + 1) 0 (T - e) R.2 (a + 11 + 2 * b) 5 - nI (r * e / T)) (nI 1) = nI z2 := by
    rw [q5, nI_sb hdiv, one_eq (I' := J), ez2]
  have eg : ∀ k, (M_splitNow_L40 m b e 10 Y T (nI r) (nI (r * e / T)) (tn (J (m + 1) 7)) (T - e)).2 (m + 1) k = if k = 66 + 15 * b + 10 then nI z2 else if k = 66 + 15 * b then nI (T - e) else md_fill (Y (m + 1)) (tn (J (m + 1) 7)) 0 (fun j => J (m + 1) (66 + 15 * b + (1 + (T - e + j)))) e k := by
    intro k
    rw [l2 k, nI_sb hdiv]
    have : M_atLeastOne (nI (r - r * e / T)) Y = nI z2 := by rw [← ez2]; rfl
    rw [this]
  refine ⟨⟨?_, ?_, ?_⟩, ?_⟩
  · rw [hx5]
    exact rl_keep t1 v1 (by rw [f7]; omega) (by rw [fb, tn_nI (by omega)]; omega) eg
  · have g := V_splitNow (m := m) (b := b) (e := e) (I := J) hv hb h20 he.1 (by show e < tn (J (m + 1) (66 + 15 * b)); rw [hTT]; exact hT)
    exact V_cut (b := b) (x := nI z2) (y := T - e) v1 (by omega) (show 1 ≤ T - e by omega) (by omega) (fun k => by rw [eg k, show 76 + 15 * b = 66 + 15 * b + 10 by omega])
  · exact iv_keep i1 v1 (by rw [f7]; omega) (by rw [fb, tn_nI (by omega)]; omega) ⟨z2, rfl, z21, z22⟩ eg
  · rw [l1]
    exact t2
end RLL
