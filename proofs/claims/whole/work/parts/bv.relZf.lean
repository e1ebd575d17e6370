/-! A SETUP LOADED -/
section CMS
variable {p a : Nat} {I J : ow_I}
theorem cm_tw {w : Nat} (h : cm_V p I) : cm_V p (Q_takeWord p w I).2 := by
  simp only [Q_takeWord, lt_eq]
  split
  · exact cm_adv h
  · exact cm_qf h
theorem cm_out (h : cm_V p I) (e : ∀ b, p ≤ b → b < p + 46 → J b = I b) : cm_V p J := cm_row h (e _ (by omega) (by omega)) (fun i hi => e _ (by omega) (by omega))
theorem cm_off {b k : Nat} {x : Int32} (h : cm_V p I) (hb : b < p ∨ p + 46 ≤ b ∨ b = p + 4 ∨ b = p + 5) : cm_V p (ow_u I b k x) := cm_row h (rr_u (by omega)) (fun i hi => rr_u (by omega))
theorem cm_r4L : ∀ (n : Nat) (I : ow_I) (i : Nat), cm_V p I → cm_V p (Q_readBarrel_L23 p (p + 4) n I i).2 := by
  intro n
  induction n with
  | zero => intro I i h; exact h
  | succ n ih =>
    intro I i h
    have k := cm_tn (l := nI 10) (m := nI 150) h (by decide)
    have k2 : cm_V p (ow_u (ow_u (Q_takeNumber p (nI 10) (nI 150) I).2 (p + 4 + 1) i ((Q_takeNumber p (nI 10) (nI 150) I).2 p 4)) (p + 4) 4 (nI (i + 1))) := cm_off (cm_off k (by omega)) (by omega)
    simp only [Q_readBarrel_L23, lt_eq]
    split
    · exact h
    · split
      · split
        · split <;> exact cm_qf h
        · split
          · exact ih _ _ k2
          · exact k
      · split
        · split
          · split <;> exact cm_qf h
          · split
            · exact ih _ _ k2
            · exact k
        · exact h
theorem cm_r4 (h : cm_V p I) : cm_V p (Q_readBarrel p (p + 4) I).2 := by
  simp only [Q_readBarrel, lt_eq]
  have k := cm_tn (l := nI 1) (m := nI 999) h (by decide)
  split
  · exact cm_r4L _ _ _ (cm_off k (by omega))
  · exact k
/-- the parser's rows and a market's, in order -/
def cs (p a : Nat) (I J : ow_I) : Prop := ps_T p a I J ∧ cm_V p J
theorem cs_tn (hd : a + 51 ≤ p ∨ p + 46 ≤ a) {l m : Int32} (h : cs p a I J) (hl : 0 ≤ l) : cs p a I (Q_takeNumber p l m J).2 := ⟨pT_tn h.1 hd, cm_tn h.2 hl⟩
theorem cs_ts (hd : a + 51 ≤ p ∨ p + 46 ≤ a) (h : cs p a I J) : cs p a I (Q_takeSemicolon p J).2 := ⟨pT_ts h.1 hd, cm_ts h.2⟩
theorem cs_tw (hd : a + 51 ≤ p ∨ p + 46 ≤ a) {w : Nat} (h : cs p a I J) : cs p a I (Q_takeWord p w J).2 := ⟨pT_tw h.1 hd, cm_tw h.2⟩
theorem cs_rb (hd : a + 51 ≤ p ∨ p + 46 ≤ a) (h : cs p a I J) : cs p a I (Q_readBarrel p (p + 4) J).2 := ⟨pT_rb h.1 hd, cm_r4 h.2⟩
theorem cs_adv (hd : a + 51 ≤ p ∨ p + 46 ≤ a) (h : cs p a I J) : cs p a I (U_advance (p + 1) J) := ⟨pT_adv h.1 hd, cm_adv h.2⟩
theorem cs_qf (hd : a + 51 ≤ p ∨ p + 46 ≤ a) {c : Int32} (h : cs p a I J) : cs p a I (Q_fail p c J).2 := ⟨pT_qf h.1 hd, cm_qf h.2⟩
theorem cs_tbuy (hd : a + 51 ≤ p ∨ p + 46 ≤ a) {x s f : Int32} (h : cs p a I J) : cs p a I (K_takeBuyer a x s f J) := ⟨pT_tbuy h.1 hd, cm_out h.2 (fun b z1 z2 => rr_tbuy (by omega) h.1.2.1.1.2)⟩
theorem cs_tbar (hd : a + 51 ≤ p ∨ p + 46 ≤ a) {f s e : Nat} {r : Int32} (h : cs p a I J) : cs p a I (K_takeBarrel a r f s e J).2 := ⟨pT_tbar h.1 hd, cm_out h.2 (fun b z1 z2 => rr_tbar (by omega) h.1.2.1.2.1.1)⟩
theorem cs_emp (hd : a + 51 ≤ p ∨ p + 46 ≤ a) (h : cs p a I J) : cs p a I (K_beginEmpty a J) := ⟨pT_emp h.1 hd, cm_out h.2 (fun b z1 z2 => be_rr (by omega) (by omega))⟩
theorem cs_beg (hd : a + 51 ≤ p ∨ p + 46 ≤ a) (h : cs p a I J) : cs p a I (Q_begin p J) := ⟨pT_beg h.1 hd, cm_beg h.2⟩
theorem cs_row (hd : a + 51 ≤ p ∨ p + 46 ≤ a) {k : Nat} {x : Int32} (h : cs p a I J) : cs p a I (ow_u J (a + 1) k x) := ⟨pT_row h.1 hd, cm_off h.2 (by omega)⟩
theorem cs_a (hd : a + 51 ≤ p ∨ p + 46 ≤ a) {k : Nat} {x : Int32} (h : cs p a I J) (hk : k ≠ 8 ∧ k ≠ 10 ∧ k ≠ 12 ∧ k ≠ 13 ∧ k ≠ 15) : cs p a I (ow_u J a k x) := ⟨pT_a h.1 hd hk, cm_off h.2 (by omega)⟩
theorem cs_lb {r : Bool × ow_I} {A : Bool × ow_I → Bool × ow_I} (h : cs p a I r.2) (g : ∀ r, cs p a I r.2 → cs p a I (A r).2) : cs p a I (lt r (fun r => if r.1 = true then A r else (false, r.2))).2 := by
  show cs p a I (if r.1 = true then A r else (false, r.2)).2
  split
  · exact g r h
  · exact h
theorem cs_l {X : ow_I} {f : ow_I → Bool × ow_I} (h : cs p a I X) (g : ∀ Y, cs p a I Y → cs p a I (f Y).2) : cs p a I (lt X f).2 := g X h
theorem cs_l2 {R : Int32 × ow_I} {f : Int32 × ow_I → Bool × ow_I} (h : cs p a I R.2) (g : ∀ R, cs p a I R.2 → cs p a I (f R).2) : cs p a I (lt R f).2 := g R h
theorem cs_e {r : Bool × ow_I} (h : cs p a I r.2) : cs p a I (lt r (fun r => (r.1, r.2))).2 := h
theorem cs_mk (hd : a + 51 ≤ p ∨ p + 46 ≤ a) (h : cs p a I J) : cs p a I (Q_readMarket p a J).2 := by
  unfold Q_readMarket
  exact cs_lb (cs_tw hd h) (fun _ h => cs_lb (cs_tn hd h (by decide)) (fun _ h => cs_l (cs_row hd h) (fun _ h => cs_lb (cs_tn hd h (by decide)) (fun _ h => cs_l (cs_row hd h) (fun _ h => cs_lb (cs_tn hd h (by decide)) (fun _ h => cs_l (cs_a hd h (by decide)) (fun _ h => cs_lb (cs_tn hd h (by decide)) (fun _ h => cs_l (cs_a hd h (by decide)) (fun _ h => cs_lb (cs_tn hd h (by decide)) (fun _ h => cs_l (cs_a hd h (by decide)) (fun _ h => cs_e (cs_ts hd h))))))))))))
theorem cs_by (hd : a + 51 ≤ p ∨ p + 46 ≤ a) (h : cs p a I J) : cs p a I (Q_readBuyer p a J).2 := by
  unfold Q_readBuyer
  exact cs_lb (cs_tw hd h) (fun _ h => cs_lb (cs_tn hd h (by decide)) (fun _ h => cs_lb (cs_tn hd h (by decide)) (fun _ h => cs_lb (cs_tn hd h (by decide)) (fun _ h => cs_l (cs_tbuy hd h) (fun _ h => cs_e (cs_ts hd h))))))
theorem cs_bysL (hd : a + 51 ≤ p ∨ p + 46 ≤ a) : ∀ (n : Nat) (J : ow_I) (i : Nat), cs p a I J → cs p a I (Q_readBuyers_L12 p a n J i).2 := by
  intro n
  induction n with
  | zero => intro J i h; exact h
  | succ n ih =>
    intro J i h
    unfold Q_readBuyers_L12
    split
    · exact h
    · split
      · split
        · exact cs_qf hd h
        · exact cs_lb (cs_by hd h) (fun _ h => ih _ _ h)
      · exact h
theorem cs_bys (hd : a + 51 ≤ p ∨ p + 46 ≤ a) (h : cs p a I J) : cs p a I (Q_readBuyers p a J).2 := by
  unfold Q_readBuyers
  exact cs_lb (cs_by hd h) (fun _ h => cs_bysL hd _ _ _ h)
theorem cs_brsL (hd : a + 51 ≤ p ∨ p + 46 ≤ a) : ∀ (n : Nat) (J : ow_I) (i : Nat), cs p a I J → cs p a I (Q_readBarrels_L2 p a n J i).2 := by
  intro n
  induction n with
  | zero => intro J i h; exact h
  | succ n ih =>
    intro J i h
    unfold Q_readBarrels_L2
    split
    · exact h
    · split
      · split
        · exact cs_qf hd h
        · exact cs_l (cs_adv hd h) (fun _ h => cs_lb (cs_rb hd h) (fun _ h => cs_lb (cs_ts hd h) (fun _ h => cs_l2 (cs_tbar hd h) (fun _ h => ih _ _ h))))
      · exact h
theorem cs_set (hd : a + 51 ≤ p ∨ p + 46 ≤ a) (h : cs p a I J) : cs p a I (Q_readSetup p a J).2 := by
  unfold Q_readSetup
  exact cs_l (cs_beg hd h) (fun _ h => cs_l (cs_emp hd h) (fun _ h => cs_lb (cs_mk hd h) (fun _ h => cs_lb (cs_bys hd h) (fun _ h => cs_lb (cs_brsL hd _ _ _ h) (fun r h => by
    split
    · exact h
    · show cs p a I (if (Q_fail p (nI 1) r.2).1 = true then (true, (Q_fail p (nI 1) r.2).2) else (false, (Q_fail p (nI 1) r.2).2)).2
      split <;> exact cs_qf hd h)))))
theorem okp_set (hd : a + 51 ≤ p ∨ p + 46 ≤ a) (h : cs p a J I) : okp p (Q_begin p I) (Q_readSetup p a I) := by
  have h0 := cs_emp hd (cs_beg hd h)
  refine okp_s (okp_row (be_rr (by omega) (by omega))) (I' := K_beginEmpty a (Q_begin p I)) ?_
  refine okp_b (r := Q_readMarket p a (K_beginEmpty a (Q_begin p I))) (okp_mk (by omega) (by omega)) ?_
  have h1 := cs_mk hd h0
  generalize (Q_readMarket p a (K_beginEmpty a (Q_begin p I))).2 = X at h1 ⊢
  refine okp_b (r := Q_readBuyers p a X) (okp_bys hd h1.1.2.1) ?_
  have h2 := cs_bys hd h1
  generalize (Q_readBuyers p a X).2 = Y at h2 ⊢
  refine okp_b (r := Q_readBarrels p a Y) (okp_brsL hd _ _ _ h2.1.2.1) ?_
  generalize (Q_readBarrels p a Y).2 = W
  by_cases c : W (p + 1) 2 = 0
  · rw [if_pos c]
    exact okp_t ⟨rfl, rfl⟩
  · rw [if_neg c]
    exact okp_qf
theorem okm_set {m : Nat} : okm m (M_beginText m I) (M_failsAtSetup m I) := by
  refine okm_b (r := M_failsAtMarket m (M_beginText m I)) okm_mk ?_
  generalize (M_failsAtMarket m (M_beginText m I)).2 = X
  exact okm_b (r := M_failsAtBuyer m X) okm_by (okm_20 _ _)
end CMS
section LDS
variable {x m B : Nat} {I I' J J' : ow_I}
theorem r_loadSetup (h : RR x m B I J) : an x m B [1] (A_loadSetup x I).1 (A_loadSetup x I).2.1 (M_loadSetup m J).1 (A_loadSetup x I).2.2 (M_loadSetup m J).2 := by
  have h1 := RR_18 (y := nI 0) h
  have z18 : ow_u J m 18 (nI 0) m 18 = nI 0 := ow_u_s _ _ _ _
  unfold A_loadSetup M_loadSetup
  rw [lt_eq, lt_eq (ow_u J m 18 (nI 0))]
  generalize ow_u J m 18 (nI 0) = J1 at h1 z18 ⊢
  obtain ⟨⟨a1, a2⟩, a3, a4, a5, a6, a7, a8⟩ := id h1
  -- block 11 holds what was
  have cm := fun j => @cb_cells m 0 11 J1 (by omega) j
  have cr : ∀ b, b ≠ m + 1 → M_copyBlock m 0 11 J1 b = J1 b := fun b hb => rr_cb hb
  rw [lt_eq (M_copyBlock m 0 11 J1)]
  generalize M_copyBlock m 0 11 J1 = J2 at cm cr ⊢
  obtain ⟨n, n1, n2, n3, n4⟩ := id a6
  have hx : tx (x + 515 + 1) m I J2 n := ⟨n1, by rw [cr m (by omega), n2], n3, fun i hi => by
    obtain ⟨y, y1, y2, y3⟩ := n4 i hi
    exact ⟨y, y1, y2, by rw [cr _ (by omega), y3]⟩⟩
  have hR : RW m J2 := RW_of a8 (cr _ (by omega))
  have hcs : cs (x + 515) (x + 52) I I := ⟨⟨a1.2.2.2.2.2, a1.2.1, fun _ _ _ => rfl⟩, a2⟩
  have hcs2 := cs_set (by omega) hcs
  have ke := set_eq (p := x + 515) (a := x + 52) (by omega) hx hR
  have kp := okp_set (by omega) hcs
  have km := @okm_set J2 m
  have kb := beg_er hx
  have fM : ∀ b, b ≠ m → b ≠ m + 1 → b ≠ m + 4 → (M_failsAtSetup m J2).2 b = J2 b := fun b h1 h2 h3 => rr_set h1 h2 h3
  have fm : ∀ k, (k < 6 ∨ k = 12 ∨ (13 < k ∧ k ≠ 15)) → (M_failsAtSetup m J2).2 m k = J2 m k := fun k hk => fr_set hk
  have fb : ∀ k, 370 ≤ k → (M_failsAtSetup m J2).2 (m + 1) k = J2 (m + 1) k := fun k hk => fb_set hk
  rcases ke with ⟨A, C, e1, e2, g1, g2⟩ | ⟨A, C, e1, e2, g⟩
  · rw [e1] at hcs2 kp
    rw [e2] at km fM fm fb
    have kp := kp rfl
    have km := km rfl
    dsimp only at kp km fM fm fb hcs2
    rw [e1, e2]
    rw [lt_eq (ow_u (true, A).2 (x + 515 + 1) 1 (nI 0)), lt_p false]
    dsimp only
    rw [if_pos (show true = true from rfl), lt_eq (ow_u C m 5 (nI 0)), if_neg (show ¬ false = true by decide)]
    have eT : M_throwsIf m false (nI 1) (ow_u C m 5 (nI 0)) = (false, ow_u C m 5 (nI 0)) := rfl
    rw [eT, lt_p false]
    dsimp only
    rw [if_neg (show ¬ false = true by decide)]
    simp only [lt_eq]
    -- the memories before the change is kept
    have u1 : ∀ b, b ≠ x + 515 + 1 → ow_u A (x + 515 + 1) 1 (nI 0) b = A b := fun b hb => rr_u hb
    have rA : ∀ b, (b < x + 52 ∨ (x + 103 ≤ b ∧ b < x + 515) ∨ x + 561 ≤ b) → A b = I b := fun b hb => hcs2.1.2.2 b (by omega) (by omega)
    have hX2 : au_V x (ow_u A (x + 515 + 1) 1 (nI 0)) := by
      have := au_rs a1
      rw [e1] at this
      exact this
    have hc2 : cm_V (x + 515) (ow_u A (x + 515 + 1) 1 (nI 0)) := cm_row hcs2.2 (u1 _ (by omega)) (fun i hi => u1 _ (by omega))
    have v1 : ∀ b, b ≠ m → ow_u C m 5 (nI 0) b = C b := fun b hb => rr_u hb
    have v5 : ow_u C m 5 (nI 0) m 5 = nI 0 := ow_u_s _ _ _ _
    have vk : ∀ k, k ≠ 5 → ow_u C m 5 (nI 0) m k = C m k := fun k hk => by rw [u_one, if_neg hk]
    have i1 : ow_u A (x + 515 + 1) 1 (nI 0) (x + 515 + 1) 1 = nI 0 := ow_u_s _ _ _ _
    have ps2 : rlv 0 (x + 52) (ow_u A (x + 515 + 1) 1 (nI 0)) (ow_u C m 5 (nI 0) (m + 1)) := by
      rw [v1 _ (by omega)]
      exact ⟨rl_I0 g1.1 g1.2.1 (fun b z1 z2 => u1 b (by omega)), B_V g1.2.1 g2, g1.2.2⟩
    have b11 : rlv B (x + 1) (ow_u A (x + 515 + 1) 1 (nI 0)) (blk m (ow_u C m 5 (nI 0)) 11) := rlv_of (a := x + 1) (f := J1 (m + 1)) a3 (Nat.le_refl _) (fun b z1 z2 => by rw [u1 b (by omega), rA b (by omega)]) (fun j hj => by
      show ow_u C m 5 (nI 0) (m + 1) (370 * 11 + j) = J1 (m + 1) j
      rw [v1 _ (by omega), fb _ (by omega), cm, if_pos (by omega)]
      exact congrArg (J1 (m + 1)) (by omega))
    have h4 : RH x m B (ow_u A (x + 515 + 1) 1 (nI 0)) (ow_u C m 5 (nI 0)) := RH_of a4 (Nat.le_refl _) (fun b z1 z2 => by rw [u1 b (by omega), rA b (by omega)]) (by rw [vk 1 (by decide), fm 1 (by omega), cr m (by omega)]) (by rw [vk 2 (by decide), fm 2 (by omega), cr m (by omega)]) (fun j z1 z2 => by rw [v1 _ (by omega), fb j z1, cm, if_neg (by omega)])
    have h5 : RS x m B (ow_u A (x + 515 + 1) 1 (nI 0)) (ow_u C m 5 (nI 0)) := RS_of a5 (Nat.le_refl _) (fun b z => by rw [u1 b (by omega), rA b (by omega)]) (by rw [v1 _ (by omega), fM _ (by omega) (by omega) (by omega), cr _ (by omega)]) (fun j z1 z2 => by rw [v1 _ (by omega), fb j (by omega), cm, if_neg (by omega)])
    have h7 : RE x m (ow_u A (x + 515 + 1) 1 (nI 0)) (ow_u C m 5 (nI 0)) := by
      unfold RE
      rw [u1 _ (by omega), vk 6 (by decide), vk 7 (by decide), kp.1, kp.2, km.1, km.2]
      exact kb
    have h8 : RW m (ow_u C m 5 (nI 0)) := RW_of hR (by rw [v1 _ (by omega), fM _ (by omega) (by omega) (by omega)])
    have v18 : ow_u C m 5 (nI 0) m 18 = nI 0 := by rw [vk 18 (by decide), fm 18 (by omega), cr m (by omega), z18]
    generalize ow_u A (x + 515 + 1) 1 (nI 0) = I2 at i1 hX2 hc2 ps2 b11 h4 h5 h7 ⊢
    generalize ow_u C m 5 (nI 0) = J4 at v5 ps2 b11 h4 h5 h7 h8 v18 ⊢
    -- the change is kept
    obtain ⟨o, k, q1, q2, q3, q4, -⟩ := id h4
    have ho : 0 ≤ J4 m 1 := by rw [q1]; exact nI_ge0 (by omega)
    have hk : 0 ≤ J4 m 2 := by rw [q3]; exact nI_ge0 (by omega)
    have hRH := RH_rem h4 hX2 (Or.inr (by omega)) (by omega) b11
    have er : ∀ b, b < x + 103 ∨ x + 513 ≤ b → H_remember (x + 103) (x + 1) I2 b = I2 b := fun b hb => rr_rem hX2 hb
    have hX3 := au_rem hX2
    have ek : ∀ b, b ≠ m → b ≠ m + 1 → M_keep m 11 J4 b = J4 b := fun b z1 z2 => rr_keep ho hk z1 z2
    have ef : ∀ j, j ≠ 1 → j ≠ 2 → M_keep m 11 J4 m j = J4 m j := fun j z1 z2 => fr_keep ho hk z1 z2
    have ec : ∀ j, j < 370 ∨ 3330 ≤ j → M_keep m 11 J4 (m + 1) j = J4 (m + 1) j := fun j z => keep_0 ho hk (Or.inr (by omega)) z
    have ps3 : rlv 0 (x + 52) (H_remember (x + 103) (x + 1) I2) (M_keep m 11 J4 (m + 1)) := rlv_of ps2 (Nat.le_refl _) (fun b z1 z2 => er b (by omega)) (fun j hj => ec j (by omega))
    have i3 : H_remember (x + 103) (x + 1) I2 (x + 515 + 1) 1 = nI 0 := by rw [er _ (by omega), i1]
    have h53 : RS x m B (H_remember (x + 103) (x + 1) I2) (M_keep m 11 J4) := RS_of h5 (Nat.le_refl _) (fun b z => er b (by omega)) (ek _ (by omega) (by omega)) (fun j z _ => ec j (by omega))
    have h73 : RE x m (H_remember (x + 103) (x + 1) I2) (M_keep m 11 J4) := RE_of h7 (er _ (by omega)) (ef 6 (by omega) (by omega)) (ef 7 (by omega) (by omega))
    have h83 : RW m (M_keep m 11 J4) := RW_of h8 (ek _ (by omega) (by omega))
    have hc3 : cm_V (x + 515) (H_remember (x + 103) (x + 1) I2) := cm_row hc2 (er _ (by omega)) (fun i hi => er _ (by omega))
    have v53 : M_keep m 11 J4 m 5 = nI 0 := by rw [ef 5 (by omega) (by omega), v5]
    have v183 : M_keep m 11 J4 m 18 = nI 0 := by rw [ef 18 (by omega) (by omega), v18]
    generalize H_remember (x + 103) (x + 1) I2 = I3 at hRH hX3 ps3 i3 h53 h73 hc3 ⊢
    generalize M_keep m 11 J4 = J5 at hRH ps3 h53 h73 h83 v53 v183 ⊢
    -- the new market
    have hcp := rl_cp (a := x + 1) ps3.1 ps3.2.1 (by omega)
    have k5 := hX3.2.1
    have rk : ∀ b, (b < x + 1 ∨ x + 52 ≤ b) → K_copyFrom (x + 1) (x + 52) I3 b = I3 b := fun b hb => rr_kcp (by omega) (by omega) k5.1.2 k5.2.1.2
    have hkn : k_V (x + 1) (K_copyFrom (x + 1) (x + 52) I3) := kV_cp k5 hX3.1 (by omega)
    generalize K_copyFrom (x + 1) (x + 52) I3 = I4 at hcp rk hkn ⊢
    have hst : st (x + 1) m B I4 J5 := rlv_of (a := x + 1) (f := J5 (m + 1)) ⟨hcp, ps3.2⟩ (Nat.zero_le _) (fun _ _ _ => rfl) (fun _ _ => rfl)
    obtain ⟨w1, w2⟩ := au_row hX3 hc3 hkn (kV_eq hX3.2.1 (fun b z1 z2 => rk b (by omega))) (fun b hb => rk b (by omega))
    refine ⟨⟨⟨w1, w2⟩, hst, RH_of hRH (Nat.le_refl _) (fun b z1 z2 => rk b (by omega)) rfl rfl (fun _ _ _ => rfl), RS_of h53 (Nat.le_refl _) (fun b z => rk b (by omega)) rfl (fun _ _ _ => rfl), ⟨0, ?_, v53, by omega, fun i hi => by omega⟩, RE_of h73 (rk _ (by omega)) rfl rfl, h83⟩, v183, fun _ => hst.1.2.2.1.2.1⟩
    rw [rk _ (by omega), i3]
  · rw [e1] at hcs2
    rw [e2] at fM fm fb
    dsimp only at fM fm fb hcs2
    rw [e1, e2]
    rw [lt_eq (ow_u (false, A).2 (x + 515 + 1) 1 (nI 0)), lt_p true]
    dsimp only
    rw [if_neg (show ¬ false = true by decide), lt_eq (ow_u C m 5 (nI 0)), if_pos (show true = true from rfl), lt_eq (M_copyBlock m 11 0 (ow_u C m 5 (nI 0)))]
    have eT : M_throwsIf m true (nI 1) (M_copyBlock m 11 0 (ow_u C m 5 (nI 0))) = (true, ow_u (M_copyBlock m 11 0 (ow_u C m 5 (nI 0))) m 18 (nI 1)) := rfl
    rw [eT, lt_p true]
    dsimp only
    rw [if_pos (show true = true from rfl)]
    have u1 : ∀ b, b ≠ x + 515 + 1 → ow_u A (x + 515 + 1) 1 (nI 0) b = A b := fun b hb => rr_u hb
    have rA : ∀ b, (b < x + 52 ∨ (x + 103 ≤ b ∧ b < x + 515) ∨ x + 561 ≤ b) → A b = I b := fun b hb => hcs2.1.2.2 b (by omega) (by omega)
    have hX2 : au_V x (ow_u A (x + 515 + 1) 1 (nI 0)) := by
      have := au_rs a1
      rw [e1] at this
      exact this
    have hc2 : cm_V (x + 515) (ow_u A (x + 515 + 1) 1 (nI 0)) := cm_row hcs2.2 (u1 _ (by omega)) (fun i hi => u1 _ (by omega))
    have i1 : ow_u A (x + 515 + 1) 1 (nI 0) (x + 515 + 1) 1 = nI 0 := ow_u_s _ _ _ _
    have cm2 := fun j => @cb_cells m 11 0 (ow_u C m 5 (nI 0)) (by omega) j
    have cr2 : ∀ b, b ≠ m + 1 → M_copyBlock m 11 0 (ow_u C m 5 (nI 0)) b = ow_u C m 5 (nI 0) b := fun b hb => rr_cb hb
    generalize M_copyBlock m 11 0 (ow_u C m 5 (nI 0)) = J6 at cm2 cr2 ⊢
    have c0 : ∀ j, j < 4070 → J6 (m + 1) j = J1 (m + 1) j := fun j hj => by
      rw [cm2, rr_u (by omega)]
      by_cases z : j < 370
      · rw [if_pos (by omega), fb _ (by omega), cm, if_pos (by omega)]
        exact congrArg (J1 (m + 1)) (by omega)
      · rw [if_neg (by omega), fb _ (by omega), cm, if_neg (by omega)]
    have r6 : ∀ b, b ≠ m → b ≠ m + 1 → b ≠ m + 4 → J6 b = J1 b := fun b z1 z2 z3 => by rw [cr2 b z2, rr_u z1, fM b z1 z2 z3, cr b z2]
    have m6 : ∀ k, (k < 5 ∨ k = 18) → J6 m k = J1 m k := fun k hk => by rw [cr2 m (by omega), u_one, if_neg (by omega), fm k (by omega), cr m (by omega)]
    have m5 : J6 m 5 = nI 0 := by rw [cr2 m (by omega), ow_u_s]
    have m67 : ∀ k, (k = 6 ∨ k = 7) → J6 m k = C m k := fun k hk => by rw [cr2 m (by omega), u_one, if_neg (by omega)]
    have hRR : RR x m B (ow_u A (x + 515 + 1) 1 (nI 0)) J6 := by
      refine ⟨⟨hX2, hc2⟩, st_of a3 (Nat.le_refl _) (fun b z1 z2 => by rw [u1 b (by omega), rA b (by omega)]) (fun j hj => c0 j (by omega)), RH_of a4 (Nat.le_refl _) (fun b z1 z2 => by rw [u1 b (by omega), rA b (by omega)]) (m6 1 (by omega)) (m6 2 (by omega)) (fun j z1 z2 => c0 j (by omega)), RS_of a5 (Nat.le_refl _) (fun b z => by rw [u1 b (by omega), rA b (by omega)]) (r6 _ (by omega) (by omega) (by omega)) (fun j z1 z2 => c0 j (by omega)), ⟨0, i1, m5, by omega, fun i hi => by omega⟩, ?_, RW_of a8 (r6 _ (by omega) (by omega) (by omega))⟩
      unfold RE
      rw [u1 _ (by omega), m67 6 (by omega), m67 7 (by omega)]
      exact g
    exact ⟨RR_18 hRR, ow_u_s _ _ _ _, fun z => ns0 z⟩
end LDS
