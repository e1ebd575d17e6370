/-! THE ACTS OF THE LAW COME OUT TRUE (laid by wip/p67/pureN.py) -/
abbrev aP (x m B : Nat) : Bool × ow_I → Prop := fun r => r.1 = true ∧ LI (B + 8) x m r.2
section PAC
variable {x m q B g : Nat} {I : ow_I}
theorem q_min : qMin x m := fun B I h hB => by
  obtain ⟨h1, h2, h3⟩ := pm_LI h hB
  exact ⟨h1, h2, h3, fun _ => (minute_true h hB).2⟩
theorem lr_pos {y : Int32} : L_reason x q y I = 0 ∨ ¬ L_reason x q y I ≤ 0 := by
  unfold L_reason
  simp only [lt]
  (repeat' split) <;> first | exact Or.inl rfl | exact Or.inr (by decide)
theorem q_act (h : LI B x m I) (hB : B ≤ 2000) : qAct x m I := by
  have n10 := (mk_nbar h.2.2.1)
  have n8 := (mk_nbuy h.2.2.1)
  refine ⟨fun r e l r1 r2 e1 e2 l1 l2 hc => ?_, fun y hy => ?_, fun b n hb hn => ?_, fun b hb => ?_, fun y c hy c1 c2 => ?_, fun s s1 s2 => ?_, q_min⟩
  · obtain ⟨a1, a2, a3, a4, -⟩ := act_add h (by omega) ⟨r1, r2⟩ ⟨e1, e2⟩ ⟨l1, l2⟩ hc
    have hk : tn (A_barrelCount x I) < 2 ^ 31 := Nat.lt_of_le_of_lt n10.2 (by decide)
    exact ⟨a1, a2.1, nI_ge0 hk, by rw [tn_nI hk, a4]; omega⟩
  · obtain ⟨-, a2, a3, -⟩ := act_nod h hy.2
    rw [nI_tn hy.1] at a2 a3
    exact ⟨a2.1, a3⟩
  · have e1 : nI (tn n) = n := nI_tn (Int32.le_trans (by decide) hn.1)
    have h1 : 1 ≤ tn n ∧ tn n ≤ 8 := by
      rw [← e1] at hn
      have ht := tn_lt n
      exact ⟨(nI_le' (by decide) ht).mp hn.1, (nI_le' ht (by decide)).mp hn.2⟩
    have := (act_cut h hb.2 h1).1
    rw [nI_tn hb.1, e1] at this
    exact this
  · obtain ⟨a1, a2, -⟩ := act_wdr h hb.2
    rw [nI_tn hb.1] at a1 a2
    exact ⟨a1.1, a2⟩
  · have := (act_fund h hB hy.2 c1 c2).1
    rw [nI_tn hy.1] at this
    exact this.1
  · obtain ⟨a1, a2, a3, -⟩ := act_stp h s1 s2
    exact ⟨a1.1, a3⟩
theorem l553 {sc : Nat} {w : Nat → Nat → Nat} : ∀ (fuel : Nat) (B : Nat) (I : ow_I) (i : Int32), LI B x m I → B + cnt i ≤ 90000 → cnt i < fuel → (L_acted_L553 x m sc g w fuel I i).1 = true ∧ LI (B + cnt i) x m (L_acted_L553 x m sc g w fuel I i).2 := by
  intro fuel
  induction fuel with
  | zero => intro B I i h1 h2 h3; omega
  | succ fuel ih =>
    intro B I i h1 h2 h3
    simp only [L_acted_L553, lt]
    by_cases c : i < 0
    · have e0 : cnt i = 0 := by unfold cnt; rw [if_pos c]
      obtain ⟨f, hr, hv, hi, hl, hq, hop⟩ := li_to h1
      rw [if_pos c, if_pos (ln_eq h1 hr hv hi hq), if_pos (li_ce h1), e0]
      exact ⟨rfl, h1⟩
    · have hd := cnt_d c
      obtain ⟨t1, t2⟩ := minute_true h1 (by omega)
      rw [if_neg c, if_pos t1, t2]
      have := ih (B + 1) _ (i + Int32.ofInt (-1)) (pm_LI h1 (by omega)).1 (by omega) (by omega)
      rw [show B + cnt i = B + 1 + cnt (i + Int32.ofInt (-1)) by omega]
      exact this
theorem acted_true {w : Nat → Nat → Nat} {Z : Nat → Nat} (hw : w = pkf Z) (hI : LI B x m I) (hB : B ≤ 2000) : aP x m B (L_acted x m 0 g w I) := by
  have n10 := mk_nbar hI.2.2.1
  have n8 := mk_nbuy hI.2.2.1
  have h8 : 1 ≤ tn (A_buyerCount x I) ∧ tn (A_buyerCount x I) ≤ 6 := n8.2
  have hyw : w (g + 1) (tn (A_buyerCount x I)) < tn (I (x + 1) 8) := pw hw _ (by omega)
  obtain ⟨b19, hb19⟩ : ∃ b19 : Int32, b19 = (if tn (A_barrelCount x I) = 0 then (-1) else nI (w (g + 2) (tn (A_barrelCount x I)))) := ⟨_, rfl⟩
  have hv19 : ¬ b19 < 0 → 0 ≤ b19 ∧ tn b19 < tn (I (x + 1) 10) := fun h => b19v (c := A_barrelCount x I) hb19 (fun hp => pw hw _ hp) n10.2 h
  unfold L_acted
  refine ltr (P := aP x m B) hb19.symm ?_
  try dsimp only
  by_cases hT : b19 < 0 ∨ w g 14 = 0
  · refine ltr (P := aP x m B) (v' := true) (by
      by_cases c : b19 < 0
      · rw [if_pos c]
      · rw [if_neg c, if_pos (hT.resolve_left c)]) ?_
    try dsimp only
    rw [if_pos rfl]
    by_cases c20 : tn (A_barrelCount x I) = 20
    · rw [if_pos c20]
      exact ⟨rfl, li_mono hI (by omega) (by omega)⟩
    · rw [if_neg c20]
      have p1 := pw hw (g + 1) (n := 90) (by decide)
      have p2 := pw hw (g + 1) (n := 9) (by decide)
      have p3 := pw hw (g + 2) (n := 141) (by decide)
      obtain ⟨a1, a2, a3, a4, a5, a6, a7, a8⟩ := act_add hI (by omega) (r := 1 + w (g + 1) 90) (e := 1 + w (g + 1) 9) (l := 10 + w (g + 2) 141) ⟨by omega, by omega⟩ ⟨by omega, by omega⟩ ⟨by omega, by omega⟩ c20
      refine ltr (P := aP x m B) rfl ?_
      try dsimp only
      rw [if_pos a3, if_pos a5, if_pos a6, if_pos a7, if_pos a8]
      exact ⟨rfl, li_mono a2 (by omega) (by omega)⟩
  have hnb : ¬ b19 < 0 := fun z => hT (Or.inl z)
  obtain ⟨b0, b1⟩ := hv19 hnb
  have eb : nI (tn b19) = b19 := nI_tn b0
  refine ltr (P := aP x m B) (v' := false) (by rw [if_neg hnb, if_neg (fun z => hT (Or.inr z))]) ?_
  try dsimp only
  rw [if_neg (show ¬ false = true by decide)]
  by_cases k1 : nI (w g 14) = nI (1 + 0)
  · rw [if_pos k1]
    obtain ⟨a1, a2, a3, a4, a5⟩ := act_nod hI hyw
    rw [if_pos a1]
    rcases lr_pos (x := x) (q := m) (y := nI (w (g + 1) (tn (A_buyerCount x I)))) (I := I) with c0 | c0
    · obtain ⟨n1, n2, n3, n4, n5⟩ := a4 c0
      rw [if_pos (by rw [c0]; decide)]
      refine ltr (P := aP x m B) rfl ?_
      try dsimp only
      rw [if_pos n1, if_pos n2, if_pos n3, if_pos n4, if_pos n5]
      exact ⟨rfl, li_mono a2 (by omega) (by omega)⟩
    · have n0 := a5 (fun z => c0 (by rw [z]; decide))
      rw [if_neg c0]
      refine ltr (P := aP x m B) n0 ?_
      try dsimp only
      rw [if_pos rfl, if_pos rfl]
      exact ⟨rfl, li_mono hI (by omega) (by omega)⟩
  rw [if_neg k1]
  by_cases k2 : nI (w g 14) = nI (1 + 1)
  · rw [if_pos k2]
    obtain ⟨a1, a2, a3, a4, a5⟩ := act_nod hI hyw
    rw [if_pos a1]
    rcases lr_pos (x := x) (q := m) (y := nI (w (g + 1) (tn (A_buyerCount x I)))) (I := I) with c0 | c0
    · obtain ⟨n1, n2, n3, n4, n5⟩ := a4 c0
      rw [if_pos (by rw [c0]; decide)]
      refine ltr (P := aP x m B) rfl ?_
      try dsimp only
      rw [if_pos n1, if_pos n2, if_pos n3, if_pos n4, if_pos n5]
      exact ⟨rfl, li_mono a2 (by omega) (by omega)⟩
    · have n0 := a5 (fun z => c0 (by rw [z]; decide))
      rw [if_neg c0]
      refine ltr (P := aP x m B) n0 ?_
      try dsimp only
      rw [if_pos rfl, if_pos rfl]
      exact ⟨rfl, li_mono hI (by omega) (by omega)⟩
  rw [if_neg k2]
  by_cases k3 : nI (w g 14) = nI (1 + 2)
  · rw [if_pos k3]
    have p1 := pw hw (g + 1) (n := 8) (by decide)
    obtain ⟨-, a2, a3⟩ := act_cut hI b1 (e := 1 + w (g + 1) 8) ⟨by omega, by omega⟩
    rw [eb] at a2 a3
    refine ltr (P := aP x m B) rfl ?_
    try dsimp only
    exact ⟨a3, li_mono a2 (by omega) (by omega)⟩
  rw [if_neg k3]
  by_cases k4 : nI (w g 14) = nI (1 + 3)
  · rw [if_pos k4]
    obtain ⟨a1, a2, a3, a4⟩ := act_wdr hI b1
    rw [eb] at a1 a2 a3 a4
    by_cases c0 : A_stateOf x b19 I = 0
    · obtain ⟨n1, n2⟩ := a3 c0
      rw [if_pos c0]
      refine ltr (P := aP x m B) rfl ?_
      try dsimp only
      rw [if_pos n1, if_pos n2]
      exact ⟨rfl, li_mono a1 (by omega) (by omega)⟩
    · rw [if_neg c0]
      refine ltr (P := aP x m B) (a4 c0) ?_
      try dsimp only
      rw [if_pos rfl]
      exact ⟨rfl, li_mono hI (by omega) (by omega)⟩
  rw [if_neg k4]
  by_cases k5 : nI (w g 14) = nI (1 + 4)
  · rw [if_pos k5]
    have p1 := pw hw (g + 2) (n := 300) (by decide)
    obtain ⟨a1, a2⟩ := act_fund hI hB hyw (c := 1 + w (g + 2) 300) (by omega) (by omega)
    refine ltr (P := aP x m B) rfl ?_
    try dsimp only
    rw [if_pos a2, if_pos (li_ce a1)]
    exact ⟨rfl, a1⟩
  rw [if_neg k5]
  by_cases k6 : nI (w g 14) = nI (1 + 5)
  · rw [if_pos k6]
    have p1 := pw hw (g + 2) (n := 50) (by decide)
    obtain ⟨a1, a2, a3, a4⟩ := act_stp hI (s := 1 + w (g + 2) 50) (by omega) (by omega)
    obtain ⟨c1, c2⟩ := act_tst a1 (y := w (g + 1) (tn (A_buyerCount x I))) (by rw [a3]; exact hyw) (s := w (g + 1) 5) (u := 1 + w (g + 2) 200)
    refine ltr (P := aP x m B) rfl ?_
    try dsimp only
    rw [if_pos a2]
    refine ltr (P := aP x m B) rfl ?_
    try dsimp only
    have e5 : A_style x (nI (w (g + 1) (tn (A_buyerCount x I)))) (A_setStep x (nI (1 + w (g + 2) 50)) I).2 = A_style x (nI (w (g + 1) (tn (A_buyerCount x I)))) I := by
      unfold A_style
      rw [a4, rr_rem hI.1 (by have := h8.2; have ht : tn (nI (w (g + 1) (tn (A_buyerCount x I)))) = w (g + 1) (tn (A_buyerCount x I)) := tn_nI (Nat.lt_of_lt_of_le hyw (Nat.le_trans n8.2.2 (by decide))); rw [ht]; have : w (g + 1) (tn (A_buyerCount x I)) < 6 := Nat.lt_of_lt_of_le hyw n8.2.2; omega)]
    rw [if_pos (c2.trans e5)]
    exact ⟨rfl, li_mono c1 (by omega) (by omega)⟩
  rw [if_neg k6]
  have p8 := pw hw (g + 2) (n := 8) (by decide)
  have ec : cnt (nI (w (g + 2) 8)) = w (g + 2) 8 + 1 := cnt_n (by omega)
  obtain ⟨t1, t2⟩ := l553 (x := x) (m := m) (sc := 0) (g := g) (w := w) 10 B I (nI (w (g + 2) 8)) hI (by omega) (by omega)
  exact ⟨t1, li_mono t2 (by omega) (by omega)⟩
end PAC
