/-! the reference's acts: what they leave -/
/-- a barrel with eels put behind those that it has -/
def md_fill (A : Nat → Int32) (p c : Nat) (src : Nat → Int32) (cnt : Nat) : Nat → Int32 := fun k => if k = 66 + 15 * p then nI (c + cnt) else if 67 + 15 * p + c ≤ k ∧ k < 67 + 15 * p + c + cnt then src (k - (67 + 15 * p + c)) else A k
theorem fill_0 {A : Nat → Int32} {p c : Nat} {src : Nat → Int32} (h : A (66 + 15 * p) = nI c) : md_fill A p c src 0 = A := by
  funext k
  unfold md_fill
  by_cases z : k = 66 + 15 * p
  · rw [if_pos z, z, h, Nat.add_zero]
  · rw [if_neg z, if_neg (by omega)]
theorem ae_cells {m b c : Nat} {x : Int32} {I : ow_I} (h : I (m + 1) (66 + 15 * b) = nI c) (hc : c < 9) (k : Nat) : M_addEel m b x I (m + 1) k = if k = 66 + 15 * b then nI (c + 1) else if k = 67 + 15 * b + c then x else I (m + 1) k := by
  have e : tn (M_ofBarrel m b 0 I) = c := by show tn (I (m + 1) (66 + 15 * b)) = c; rw [h, tn_nI (by omega)]
  simp only [M_addEel, lt_eq, u_one, M_putBarrel, e, Nat.add_zero]
  by_cases z : k = 66 + 15 * b
  · simp only [if_pos z]
  · simp only [if_neg z]
    by_cases y : k = 67 + 15 * b + c
    · rw [if_pos y, if_pos (by omega)]
    · rw [if_neg y, if_neg (by omega)]
theorem fill_s {m b c cnt : Nat} {src : Nat → Int32} {I : ow_I} (h : I (m + 1) (66 + 15 * b) = nI c) (hc : c + cnt < 9) : md_fill (M_addEel m b (src 0) I (m + 1)) b (c + 1) (fun j => src (j + 1)) cnt = md_fill (I (m + 1)) b c src (cnt + 1) := by
  funext k
  unfold md_fill
  by_cases z : k = 66 + 15 * b
  · rw [if_pos z, if_pos z, show c + 1 + cnt = c + (cnt + 1) by omega]
  · rw [if_neg z, if_neg z]
    rw [ae_cells h (by omega), if_neg z]
    by_cases y : 67 + 15 * b + (c + 1) ≤ k ∧ k < 67 + 15 * b + (c + 1) + cnt
    · rw [if_pos y, if_pos (by omega)]
      show src (k - (67 + 15 * b + (c + 1)) + 1) = _
      rw [show k - (67 + 15 * b + (c + 1)) + 1 = k - (67 + 15 * b + c) by omega]
    · rw [if_neg y]
      by_cases x : k = 67 + 15 * b + c
      · rw [if_pos x, if_pos (by omega), show k - (67 + 15 * b + c) = 0 by omega]
      · rw [if_neg x, if_neg (by omega)]
theorem nb_cells {m : Nat} {r : Int32} {I : ow_I} (h7 : tn (I (m + 1) 7) < 20) (h12 : tn (I (m + 1) 12) < 20) (k : Nat) : (M_newBarrel m r I).2 (m + 1) k = if k = 12 then I (m + 1) 12 + nI 1 else if k = 16 + tn (I (m + 1) 12) then nI (tn (I (m + 1) 7)) else if k = 78 + 15 * tn (I (m + 1) 7) then nI 0 else if k = 7 then I (m + 1) 7 + nI 1 else if k = 80 + 15 * tn (I (m + 1) 7) then -1 else if k = 79 + 15 * tn (I (m + 1) 7) then -1 else if k = 77 + 15 * tn (I (m + 1) 7) then nI 0 else if k = 76 + 15 * tn (I (m + 1) 7) then r else if k = 66 + 15 * tn (I (m + 1) 7) then nI 0 else I (m + 1) k := by
  simp (disch := omega) only [M_newBarrel, M_enqueue, lt_eq, u_one, M_putBarrel, if_neg, ↓reduceIte, Nat.add_zero]
  simp only [show ∀ x : Nat, 66 + 15 * x + 12 = 78 + 15 * x by omega, show ∀ x : Nat, 66 + 15 * x + 14 = 80 + 15 * x by omega, show ∀ x : Nat, 66 + 15 * x + 13 = 79 + 15 * x by omega, show ∀ x : Nat, 66 + 15 * x + 11 = 77 + 15 * x by omega, show ∀ x : Nat, 66 + 15 * x + 10 = 76 + 15 * x by omega]
theorem fill_o {A : Nat → Int32} {p c cnt k : Nat} {src : Nat → Int32} (h : k < 66 + 15 * p ∨ 67 + 15 * p + c + cnt ≤ k) : md_fill A p c src cnt k = A k := by
  unfold md_fill
  rw [if_neg (by omega), if_neg (by omega)]
theorem V_nb {m cnt : Nat} {r : Int32} {src : Nat → Int32} {I : ow_I} (hv : md_V (I (m + 1))) (h7 : tn (I (m + 1) 7) < 20) (h1 : 1 ≤ cnt) (h9 : cnt ≤ 9) : md_V (md_fill ((M_newBarrel m r I).2 (m + 1)) (tn (I (m + 1) 7)) 0 src cnt) := by
  have h12 := mdV_qlt hv h7
  have hE := hv.2.2.2.2.2.2.2.2.2
  rw [md_V_eq] at hv ⊢
  have o : ∀ k, k < 66 → md_fill ((M_newBarrel m r I).2 (m + 1)) (tn (I (m + 1) 7)) 0 src cnt k = (M_newBarrel m r I).2 (m + 1) k := fun k hk => fill_o (by omega)
  rw [o 0 (by omega), o 6 (by omega), o 7 (by omega), o 8 (by omega), o 10 (by omega), o 12 (by omega)]
  have e7 : (M_newBarrel m r I).2 (m + 1) 7 = I (m + 1) 7 + nI 1 := by rw [nb_cells h7 h12]; simp (disch := omega) only [if_neg, ↓reduceIte]
  have e12 : (M_newBarrel m r I).2 (m + 1) 12 = I (m + 1) 12 + nI 1 := by rw [nb_cells h7 h12]; simp only [↓reduceIte]
  rw [nb_o (k := 0) h7 h12 (by omega), nb_o (k := 6) h7 h12 (by omega), nb_o (k := 8) h7 h12 (by omega), nb_o (k := 10) h7 h12 (by omega)]
  refine VV_new hv h7 e7 e12 (fun i hi => ?_) (fun k hk => ?_) (fun k hk => ?_)
  · rw [o _ (by omega), nb_cells h7 h12, if_neg (by omega)]
    by_cases z : i = tn (I (m + 1) 12)
    · rw [if_pos (by omega), if_pos z]
    · simp (disch := omega) only [if_neg]
  · by_cases z : k = tn (I (m + 1) 7)
    · rw [if_pos z, fill_o (by omega), nb_cells h7 h12, if_neg (by omega), if_neg (by omega), if_pos (by omega)]
      decide
    · rw [if_neg z]
      show md_fill _ _ _ _ _ _ = _
      rcases Nat.lt_or_ge k (tn (I (m + 1) 7)) with y | y
      · rw [fill_o (by omega), nb_o h7 h12 (by omega)]
      · rw [fill_o (by omega), nb_o h7 h12 (by omega)]
  · show 0 ≤ md_fill _ _ _ _ _ (66 + 15 * k) ∧ _
    by_cases z : k = tn (I (m + 1) 7)
    · have e : md_fill ((M_newBarrel m r I).2 (m + 1)) (tn (I (m + 1) 7)) 0 src cnt (66 + 15 * k) = nI cnt := by
        unfold md_fill
        rw [if_pos (by omega), Nat.zero_add]
      rw [e, tn_nI (by omega)]
      exact ⟨nI_ge0 (by omega), h1, h9⟩
    · have e : md_fill ((M_newBarrel m r I).2 (m + 1)) (tn (I (m + 1) 7)) 0 src cnt (66 + 15 * k) = I (m + 1) (66 + 15 * k) := by
        rw [fill_o (by omega), nb_o h7 h12 (by omega)]
      rw [e]
      exact hE k (by omega)
/-- a barrel that a command brings -/
theorem rbL {m a : Nat} : ∀ (n : Nat) (I : ow_I) (b i : Nat), I (m + 1) (66 + 15 * b) = nI (i - 1) → 1 ≤ i → i ≤ tn (I (m + 5) (a + 1)) → tn (I (m + 5) (a + 1)) ≤ 10 → 10 - i < n →
    (M_runBarrel_L29 m a n I b i).2 (m + 1) = md_fill (I (m + 1)) b (i - 1) (fun j => I (m + 5) (a + 2 + i + j)) (tn (I (m + 5) (a + 1)) - i) ∧ (M_runBarrel_L29 m a n I b i).1 = true := by
  intro n
  induction n with
  | zero => intro I b i _ _ _ _ h; omega
  | succ n ih =>
    intro I b i h1 h2 h3 h4 hn
    simp only [M_runBarrel_L29, lt_eq]
    split
    · rw [show tn (I (m + 5) (a + 1)) - i = 0 by omega, fill_0 h1]
      exact ⟨rfl, rfl⟩
    · have e5 : ∀ x, M_addEel m b x I (m + 5) = I (m + 5) := fun x => rr_addEel (by omega)
      have r := ih (M_addEel m b (I (m + 5) (a + 2 + i)) I) b (i + 1) (by rw [ae_0 h1 (by omega), show i - 1 + 1 = i + 1 - 1 by omega]) (by omega) (by rw [e5]; omega) (by rw [e5]; omega) (by omega)
      refine ⟨?_, r.2⟩
      rw [r.1, e5]
      have f := fill_s (src := fun j => I (m + 5) (a + 2 + i + j)) (cnt := tn (I (m + 5) (a + 1)) - (i + 1)) h1 (by omega)
      rw [show tn (I (m + 5) (a + 1)) - (i + 1) + 1 = tn (I (m + 5) (a + 1)) - i by omega, show i - 1 + 1 = i + 1 - 1 by omega] at f
      rw [← f]
      have g : (fun j => I (m + 5) (a + 2 + (i + 1) + j)) = fun j => I (m + 5) (a + 2 + i + (j + 1)) := by
        funext j
        rw [show a + 2 + (i + 1) + j = a + 2 + i + (j + 1) by omega]
      rw [g]
      rfl
theorem rr_rbL {m a a' : Nat} (h : a' ≠ m + 1) : ∀ (n : Nat) (I : ow_I) (b i : Nat), (M_runBarrel_L29 m a n I b i).2 a' = I a' := by
  intro n
  induction n with
  | zero => intro I b i; rfl
  | succ n ih =>
    intro I b i
    simp only [M_runBarrel_L29, lt_eq]
    split
    · rfl
    · rw [ih, rr_addEel h]
theorem rr_rb {m a a' : Nat} {I : ow_I} (h : a' ≠ m + 1) : (M_runBarrel m a I).2 a' = I a' := by
  simp only [M_runBarrel, lt_eq]
  split
  · rfl
  · rw [rr_rbL h, rr_newBarrel h]
theorem rb_eq {m a : Nat} {I : ow_I} (h7 : tn (I (m + 1) 7) < 20) (h12 : tn (I (m + 1) 12) < 20) (h2 : 1 ≤ tn (I (m + 5) (a + 1))) (h10 : tn (I (m + 5) (a + 1)) ≤ 10) : (M_runBarrel_L29 m a 11 (M_newBarrel m (I (m + 5) (a + 2)) I).2 (M_newBarrel m (I (m + 5) (a + 2)) I).1 1).2 (m + 1) = md_fill ((M_newBarrel m (I (m + 5) (a + 2)) I).2 (m + 1)) (tn (I (m + 1) 7)) 0 (fun j => I (m + 5) (a + 3 + j)) (tn (I (m + 5) (a + 1)) - 1) ∧ (M_runBarrel_L29 m a 11 (M_newBarrel m (I (m + 5) (a + 2)) I).2 (M_newBarrel m (I (m + 5) (a + 2)) I).1 1).1 = true := by
  have e5 : ∀ x, (M_newBarrel m x I).2 (m + 5) = I (m + 5) := fun x => rr_newBarrel (by omega)
  have r := rbL (m := m) (a := a) 11 (M_newBarrel m (I (m + 5) (a + 2)) I).2 (tn (I (m + 1) 7)) 1 (nb_0 h7 h12) (by omega) (by rw [e5]; omega) (by rw [e5]; omega) (by omega)
  rw [e5] at r
  exact r
theorem V_runBarrel {m a : Nat} {I : ow_I} (hv : md_V (I (m + 1))) (h2 : 2 ≤ tn (I (m + 5) (a + 1))) (h10 : tn (I (m + 5) (a + 1)) ≤ 10) : md_V ((M_runBarrel m a I).2 (m + 1)) := by
  simp only [M_runBarrel, lt_eq]
  split
  · exact hv
  · rename_i h7
    have h7 := B20 hv h7
    rw [(rb_eq h7 (mdV_qlt hv h7) (by omega) h10).1]
    exact V_nb hv h7 (by omega) (by omega)
theorem V_runNod {m b : Nat} {I : ow_I} (hv : md_V (I (m + 1))) (hb : b < tn (I (m + 1) 6)) : md_V ((M_runNod m b I).2 (m + 1)) := by
  simp only [M_runNod, lt_eq]
  split
  · exact V_nodNow hv (RA_8 (by assumption)) hb
  · exact hv
theorem V_withdraw {m b p : Nat} {I : ow_I} (hv : md_V (I (m + 1))) (hb : b < 20) (hp : p < tn (I (m + 1) 12)) (hpm : I (m + 1) (16 + p) = nI b) : md_V ((M_withdrawNow m b I).2 (m + 1)) := by
  have h12 := hv.2.2.2.2.2.1
  have hinj := hv.2.2.2.2.2.2.2.1
  have d := @dq_cells m b p I h12.1 h12.2 hp hpm (fun j hj z => absurd (hinj j p (by omega) hp (z.trans hpm.symm)) (by omega))
  rw [md_V_eq] at hv ⊢
  simp (disch := omega) only [M_withdrawNow, lt_eq, u_one, M_putBarrel, if_neg, ↓reduceIte, d]
  refine VV_congr (VV_deq hv hp hpm hb (x := nI 3) (by decide) rfl (Q' := fun i => if 16 + p ≤ 16 + i ∧ 16 + i < 16 + (tn (I (m + 1) 12) - 1) then I (m + 1) (16 + i + 1) else I (m + 1) (16 + i)) (fun i hi => ?_) (fun k hk => rfl) (Or.inl ⟨rfl, rfl⟩)) (fun i hi => ?_) (fun i hi => ?_) (fun i hi => ?_)
  · by_cases z : i < p
    · rw [if_neg (by omega), if_pos z]
    · rw [if_pos (by omega), if_neg z]; rfl
  · simp (disch := omega) only [if_neg]
  · by_cases c : i = b
    · simp [c]
    · simp (disch := omega) only [if_neg]
  · simp (disch := omega) only [if_neg]
theorem V_runWithdraw {m : Nat} {x : Int32} {I : ow_I} (hv : md_V (I (m + 1))) : md_V ((M_runWithdraw m x I).2 (m + 1)) := by
  simp only [M_runWithdraw, lt_eq]
  split
  · rename_i hb
    split
    · rename_i hw
      have hb := isB hb hv.2.2.1.1
      obtain ⟨p, hp, hq⟩ := V_wait hv hb.2 hw
      exact V_withdraw hv (by have := hv.2.2.1; omega) hp hq
    · exact hv
  · exact hv
theorem V_fund {m b : Nat} {x : Int32} {I : ow_I} (hv : md_V (I (m + 1))) (hb : b < 6) : md_V ((M_fundNow m b x I).2 (m + 1)) := by
  rw [md_V_eq] at hv ⊢
  simp only [M_fundNow, lt_eq]
  split
  all_goals
    simp (disch := omega) only [lt_eq, u_one, M_put, if_neg]
    refine VV_congr hv (fun i hi => ?_) (fun i hi => ?_) (fun i hi => ?_)
    · simp (disch := omega) only [if_neg]
    · simp (disch := omega) only [if_neg]
    · simp (disch := omega) only [if_neg]
/-- a barrel that is cut -/
theorem splL {m b e : Nat} : ∀ (n : Nat) (I : ow_I) (n3 : Nat) (r4 s5 : Int32) (p6 j c : Nat), I (m + 1) (66 + 15 * p6) = nI c → c + (n3 - j) ≤ 9 → j ≤ n3 → n3 ≤ 9 → n3 - j < n → b ≠ p6 →
    ∀ k, (M_splitNow_L40 m b e n I n3 r4 s5 p6 j).2 (m + 1) k = if k = 76 + 15 * b then M_atLeastOne (r4 - s5) I else if k = 66 + 15 * b then nI (n3 - e) else md_fill (I (m + 1)) p6 c (fun i => I (m + 1) (67 + 15 * b + (j + i))) (n3 - j) k := by
  intro n
  induction n with
  | zero => intro I n3 r4 s5 p6 j c _ _ _ _ h; omega
  | succ n ih =>
    intro I n3 r4 s5 p6 j c h1 h2 h3 h4 hn hbp k
    simp only [M_splitNow_L40, lt_eq]
    split
    · rw [show n3 - j = 0 by omega, fill_0 h1]
      simp only [lt_eq, M_putBarrel, u_one, Nat.add_zero, show 66 + 15 * b + 10 = 76 + 15 * b by omega]
      rfl
    · rename_i hj
      rw [ih _ n3 r4 s5 p6 (j + 1) (c + 1) (ae_0 h1 (by omega)) (by omega) (by omega) h4 (by omega) hbp k]
      have f := fill_s (src := fun i => I (m + 1) (67 + 15 * b + (j + i))) (cnt := n3 - (j + 1)) h1 (by omega)
      rw [show n3 - (j + 1) + 1 = n3 - j by omega] at f
      rw [← f]
      have g : (fun i => M_addEel m p6 (M_lengthOf m b j I) I (m + 1) (67 + 15 * b + (j + 1 + i))) = (fun i => if 67 + 15 * b + (j + 1 + i) = 66 + 15 * p6 then nI (c + 1) else if 67 + 15 * b + (j + 1 + i) = 67 + 15 * p6 + c then M_lengthOf m b j I else I (m + 1) (67 + 15 * b + (j + 1 + i))) := by
        funext i
        rw [ae_cells h1 (by omega)]
      rw [g]
      have q : ∀ A : Nat → Int32, md_fill A p6 (c + 1) (fun i => if 67 + 15 * b + (j + 1 + i) = 66 + 15 * p6 then nI (c + 1) else if 67 + 15 * b + (j + 1 + i) = 67 + 15 * p6 + c then M_lengthOf m b j I else I (m + 1) (67 + 15 * b + (j + 1 + i))) (n3 - (j + 1)) = md_fill A p6 (c + 1) (fun i => I (m + 1) (67 + 15 * b + (j + (i + 1)))) (n3 - (j + 1)) := by
        intro A
        funext k
        unfold md_fill
        by_cases z : k = 66 + 15 * p6
        · rw [if_pos z, if_pos z]
        · rw [if_neg z, if_neg z]
          by_cases y : 67 + 15 * p6 + (c + 1) ≤ k ∧ k < 67 + 15 * p6 + (c + 1) + (n3 - (j + 1))
          · rw [if_pos y, if_pos y]
            have hi : k - (67 + 15 * p6 + (c + 1)) < n3 - (j + 1) := by omega
            generalize k - (67 + 15 * p6 + (c + 1)) = i at hi
            dsimp only
            rw [if_neg (by omega), if_neg (by omega), show j + 1 + i = j + (i + 1) by omega]
          · rw [if_neg y, if_neg y]
      have hL : M_lengthOf m b j I = I (m + 1) (67 + 15 * b + (j + 0)) := by
        show I (m + 1) (66 + 15 * b + (1 + j)) = _
        rw [show 66 + 15 * b + (1 + j) = 67 + 15 * b + (j + 0) by omega]
      have hA : ∀ J, M_atLeastOne (r4 - s5) J = M_atLeastOne (r4 - s5) I := fun J => rfl
      rw [q, hA, hL]
theorem spl_1 {m b e : Nat} : ∀ (n : Nat) (I : ow_I) (n3 : Nat) (r4 s5 : Int32) (p6 j : Nat), n3 - j < n → (M_splitNow_L40 m b e n I n3 r4 s5 p6 j).1 = p6 := by
  intro n
  induction n with
  | zero => intro I n3 r4 s5 p6 j h; omega
  | succ n ih =>
    intro I n3 r4 s5 p6 j h
    simp only [M_splitNow_L40, lt_eq]
    split
    · rfl
    · exact ih _ _ _ _ _ _ (by omega)
theorem rr_spL {m b e a' : Nat} (h : a' ≠ m + 1) : ∀ (n : Nat) (I : ow_I) (n3 : Nat) (r4 s5 : Int32) (p6 j : Nat), (M_splitNow_L40 m b e n I n3 r4 s5 p6 j).2 a' = I a' := by
  intro n
  induction n with
  | zero => intro I n3 r4 s5 p6 j; rfl
  | succ n ih =>
    intro I n3 r4 s5 p6 j
    simp only [M_splitNow_L40, lt_eq]
    split
    · dsimp only
      rw [rr_putB h, rr_putB h]
    · rw [ih, rr_addEel h]
theorem rr_spl {m b e a' : Nat} {I : ow_I} (h : a' ≠ m + 1) : (M_splitNow m b e I).2 a' = I a' := by
  simp only [M_splitNow, lt_eq]
  rw [rr_spL h, rr_newBarrel h]
theorem V_cut {F A : Nat → Int32} {b y : Nat} {x : Int32} (hv : md_V F) (hb : b < 20) (h1 : 1 ≤ y) (h9 : y ≤ 9) (h : ∀ k, A k = if k = 76 + 15 * b then x else if k = 66 + 15 * b then nI y else F k) : md_V A := by
  have hE := hv.2.2.2.2.2.2.2.2.2
  have h7 := hv.2.2.1
  rw [md_V_eq] at hv ⊢
  have o : ∀ k, k < 66 → A k = F k := fun k hk => by rw [h, if_neg (by omega), if_neg (by omega)]
  rw [o 0 (by omega), o 6 (by omega), o 7 (by omega), o 8 (by omega), o 10 (by omega), o 12 (by omega)]
  refine VV_congr (VV_eels hv (e' := fun k => A (66 + 15 * k)) (fun k hk => ?_)) (fun i hi => o _ (by omega)) (fun i hi => ?_) (fun i hi => rfl)
  · by_cases z : k = b
    · have e : A (66 + 15 * k) = nI y := by rw [h, if_neg (by omega), if_pos (by omega)]
      show 0 ≤ A (66 + 15 * k) ∧ _
      rw [e, tn_nI (by omega)]
      exact ⟨nI_ge0 (by omega), h1, h9⟩
    · have e : A (66 + 15 * k) = F (66 + 15 * k) := by rw [h, if_neg (by omega), if_neg (by omega)]
      show 0 ≤ A (66 + 15 * k) ∧ _
      rw [e]
      exact hE k hk
  · show A (66 + 15 * i + 12) = _
    rw [h, if_neg (by omega), if_neg (by omega)]
/-- what a cut barrel and its piece hold -/
theorem spl_cells {m b e : Nat} {I : ow_I} (hb : b < tn (I (m + 1) 7)) (h7 : tn (I (m + 1) 7) < 20) (h12 : tn (I (m + 1) 12) < 20) (h9 : tn (M_ofBarrel m b 0 I) ≤ 9) (he : e < tn (M_ofBarrel m b 0 I)) (k : Nat) :
    (M_splitNow m b e I).2 (m + 1) k = if k = 76 + 15 * b then M_atLeastOne (M_ofBarrel m b 10 I - M_ofBarrel m b 10 I * nI e / nI (tn (M_ofBarrel m b 0 I))) I else if k = 66 + 15 * b then nI (tn (M_ofBarrel m b 0 I) - e) else
     md_fill ((M_newBarrel m (M_atLeastOne (M_ofBarrel m b 10 I * nI e / nI (tn (M_ofBarrel m b 0 I))) I) I).2 (m + 1)) (tn (I (m + 1) 7)) 0 (fun i => I (m + 1) (67 + 15 * b + (tn (M_ofBarrel m b 0 I) - e + i))) e k := by
  simp only [M_splitNow, lt_eq]
  generalize M_atLeastOne (M_ofBarrel m b 10 I * nI e / nI (tn (M_ofBarrel m b 0 I))) I = x
  have r := splL (m := m) (b := b) (e := e) 10 (M_newBarrel m x I).2 (tn (M_ofBarrel m b 0 I)) (M_ofBarrel m b 10 I) (M_ofBarrel m b 10 I * nI e / nI (tn (M_ofBarrel m b 0 I))) (tn (I (m + 1) 7)) (tn (M_ofBarrel m b 0 I) - e) 0 (nb_0 h7 h12) (by omega) (by omega) h9 (by omega) (by omega) k
  rw [rdNB1, r]
  have q : ∀ A : Nat → Int32, md_fill A (tn (I (m + 1) 7)) 0 (fun i => (M_newBarrel m x I).2 (m + 1) (67 + 15 * b + (tn (M_ofBarrel m b 0 I) - e + i))) (tn (M_ofBarrel m b 0 I) - (tn (M_ofBarrel m b 0 I) - e)) = md_fill A (tn (I (m + 1) 7)) 0 (fun i => I (m + 1) (67 + 15 * b + (tn (M_ofBarrel m b 0 I) - e + i))) e := by
    intro A
    rw [show tn (M_ofBarrel m b 0 I) - (tn (M_ofBarrel m b 0 I) - e) = e by omega]
    funext k
    unfold md_fill
    by_cases z : k = 66 + 15 * tn (I (m + 1) 7)
    · rw [if_pos z, if_pos z]
    · rw [if_neg z, if_neg z]
      by_cases y : 67 + 15 * tn (I (m + 1) 7) + 0 ≤ k ∧ k < 67 + 15 * tn (I (m + 1) 7) + 0 + e
      · rw [if_pos y, if_pos y]
        dsimp only
        rw [nb_o h7 h12 (by omega)]
      · rw [if_neg y, if_neg y]
  have hA : ∀ v J, M_atLeastOne v J = M_atLeastOne v I := fun v J => rfl
  rw [q, hA]
theorem V_splitNow {m b e : Nat} {I : ow_I} (hv : md_V (I (m + 1))) (hb : b < tn (I (m + 1) 7)) (h7 : tn (I (m + 1) 7) < 20) (he1 : 1 ≤ e) (he : e < tn (M_ofBarrel m b 0 I)) : md_V ((M_splitNow m b e I).2 (m + 1)) := by
  have h9 : tn (M_ofBarrel m b 0 I) ≤ 9 := (hv.2.2.2.2.2.2.2.2.2 b hb).2.2
  exact V_cut (V_nb hv h7 he1 (by omega)) (by omega) (y := tn (M_ofBarrel m b 0 I) - e) (by omega) (by omega) (spl_cells hb h7 (mdV_qlt hv h7) h9 he)
theorem V_runSplit {m e : Nat} {x : Int32} {I : ow_I} (hv : md_V (I (m + 1))) (he1 : 1 ≤ e) (he8 : e ≤ 8) : md_V ((M_runSplit m x e I).2 (m + 1)) := by
  simp only [M_runSplit, lt_eq]
  split
  · rename_i hb
    split
    · rename_i hw
      have hb := isB hb hv.2.2.1.1
      have h := (lt_tn (cS hw).2.1 (nI_ge0 (by omega))).2
      rw [tn_nI (by omega)] at h
      exact V_splitNow hv hb.2 (cS7 hv hw) he1 h
    · exact hv
  · exact hv
theorem V_paL {m n2 : Nat} : ∀ (n : Nat) (I : ow_I) (c : Int32) (i : Nat), md_V (I (m + 1)) → md_V ((M_passAll_L8 m n2 n I c i).2 (m + 1)) := by
  intro n
  induction n with
  | zero => intro I c i hv; exact hv
  | succ n ih =>
    intro I c i hv
    simp only [M_passAll_L8, lt_eq]
    split
    · exact hv
    · exact ih _ _ _ (V_passOne hv)
theorem V_passAll {m n : Nat} {I : ow_I} (hv : md_V (I (m + 1))) : md_V ((M_passAll m n I).2 (m + 1)) := V_paL _ _ _ _ hv
theorem V_execute {m a : Nat} {I : ow_I} (hv : md_V (I (m + 1))) (hcm : md_CC (I (m + 1) 6) (fun k => I (m + 5) (a + k))) : md_V ((M_execute m a I).2 (m + 1)) := by
  simp only [M_execute, lt_eq]
  split
  · rename_i e
    exact V_runBarrel hv (CC2 hcm e).2.1 (CC2 hcm e).2.2
  · split
    · rename_i e
      exact V_runNod hv (CC3 hcm e).2
    · split
      · exact V_passAll hv
      · split
        · rename_i e
          exact V_runSplit hv (CC5 hcm e).2.2.1 (CC5 hcm e).2.2.2
        · split
          · rename_i e
            exact V_fund hv (by have := (CC6 hcm e).1.2; have := hv.2.1; omega)
          · split
            · exact V_runWithdraw hv
            · exact V_passAll hv
