/-! THE LAW'S STATE between two calls; which throws the class's methods know -/
section LWI
variable {x m o B B' : Nat} {I I' J : ow_I}
/-- the verbs' places of the commands hold references: their ints are ghosts, kept as they were -/
def gh (x : Nat) (I I' : ow_I) : ow_I := fun b k => if k = 0 ∧ ve_c (x + 515) b = true then I b k else I' b k
theorem gh_o {b : Nat} (hb : b < x + 521 ∨ x + 561 ≤ b) : gh x I I' b = I' b := by
  funext k
  unfold gh
  rw [if_neg]
  rintro ⟨-, h⟩
  unfold ve_c at h
  have := of_decide_eq_true h
  omega
theorem gh_k {b k : Nat} (hk : k ≠ 0) : gh x I I' b k = I' b k := by
  unfold gh
  rw [if_neg (fun h => hk h.1)]
theorem gh_c {i : Nat} (hi : i < 20) : gh x I I' (x + 515 + 6 + 2 * i) 0 = I (x + 515 + 6 + 2 * i) 0 := by
  unfold gh
  rw [if_pos ⟨rfl, ve_ic hi⟩]
theorem RR_gh (h : RR x m B I' J) (hc : cm_V (x + 515) I) : RR x m B (gh x I I') J := by
  obtain ⟨⟨h1, h2⟩, h3, h4, h5, h6, h7, h8⟩ := h
  refine ⟨⟨⟨kV_eq h1.1 (fun b z1 z2 => gh_o (by omega)), kV_eq h1.2.1 (fun b z1 z2 => gh_o (by omega)), fun i hi => kV_eq (h1.2.2.1 i hi) (fun b z1 z2 => gh_o (by omega)), fun i hi => kV_eq (h1.2.2.2.1 i hi) (fun b z1 z2 => gh_o (by omega)), by rw [gh_o (by omega)]; exact h1.2.2.2.2.1, by rw [gh_o (by omega)]; exact h1.2.2.2.2.2⟩, ?_⟩, st_of h3 (Nat.le_refl _) (fun b z1 z2 => gh_o (by omega)) (fun _ _ => rfl), RH_of h4 (Nat.le_refl _) (fun b z1 z2 => gh_o (by omega)) rfl rfl (fun _ _ _ => rfl), RS_of h5 (Nat.le_refl _) (fun b z => gh_o (by omega)) rfl (fun _ _ _ => rfl), RI_of h6 (gh_o (by omega)) (gh_o (by omega)) rfl rfl, RE_of h7 (gh_o (by omega)) rfl rfl, h8⟩
  obtain ⟨c1, c2, c3⟩ := h2
  refine ⟨by rw [gh_o (by omega)]; exact c1, by rw [gh_o (by omega)]; exact c2, fun i hi => ⟨?_, ?_, ?_⟩⟩
  · rw [gh_c hi]; exact (hc.2.2 i hi).1
  · rw [gh_k (by decide)]; exact (c3 i hi).2.1
  · rw [gh_k (by decide)]; exact (c3 i hi).2.2
theorem RR_up (h : RR x m B I J) (hB : B ≤ B') : RR x m B' I J := RR_act h hB (st_of h.2.1 hB (fun _ _ _ => rfl) (fun _ _ => rfl)) h.1.1.1 (fun _ _ _ => rfl) (fun _ _ => rfl) (fun _ _ => rfl)
theorem fA_gh (h : fA x I I') : fA x I (gh x I I') := fun b hb => (gh_o (by omega)).trans (h b hb)
/-- the class at x, the reference at m, out at o, outD at o + 1 -/
def lwI (Z : Nat → Nat) (x m o B : Nat) (S : Nat → Option ow_Sh) (I : ow_I) (V : Nat → Nat → Value) : Prop :=
  (au_S S x ∧ md_S S m ∧ S o = some (.inr (.long, 1, ol_l)) ∧ S (o + 1) = some (.inr (.double, 1, ol_l))) ∧ (x + 666 ≤ m ∧ m + 8 ≤ o) ∧ RR x m B I I ∧ (∀ i, i < 20 → V (x + 515 + 6 + 2 * i) 0 = gl_vv Z (tn (I (x + 515 + 6 + 2 * i) 0))) ∧ ∃ (b n : Nat) (t : Nat → Nat), sb_X (x + 562) b n t (S, I, V, 0) ∧ ot m n t I ∧ (b = x + 563 ∨ o + 2 ≤ b)
variable {Z : Nat → Nat} {S : Nat → Option ow_Sh} {V V1 : Nat → Nat → Value} {Ig J2 : ow_I}
/-- behind the class's call -/
theorem lw_J (h : lwI Z x m o B S I V) (hA : fA x I Ig) : RR x m B I Ig := RR_tr h.2.2.1 (fun _ _ => rfl) (fun b z1 z2 _ _ => hA b (by have := h.2.1.1; omega)) (fun k _ => by rw [hA m (by have := h.2.1.1; omega)])
/-- behind the reference's call -/
theorem lw_step (h : lwI Z x m o B S I V) (hA : fA x I Ig) (hR : RR x m B' Ig J2) (hM : fM m Ig J2) (hV1 : ∀ i, i < 20 → V1 (x + 515 + 6 + 2 * i) 0 = gl_vv Z (tn (Ig (x + 515 + 6 + 2 * i) 0))) (hV2 : V1 (x + 562) 0 = V (x + 562) 0) : lwI Z x m o B' S J2 V1 := by
  obtain ⟨h1, h2, h3, h4, b, n, t, h5, h6, h7⟩ := h
  refine ⟨h1, h2, RR_tr hR (fun b hb => hM.1 b (by omega)) (fun _ _ _ _ _ => rfl) (fun _ _ => rfl), fun i hi => ?_, b, n, t, ?_, ?_, h7⟩
  · rw [hM.1 _ (by omega)]
    exact hV1 i hi
  · have e1 : J2 (x + 562) = I (x + 562) := (hM.1 _ (by omega)).trans (hA _ (by omega))
    have e2 : J2 b = I b := (hM.1 _ (by omega)).trans (hA _ (by omega))
    obtain ⟨g1, g2, g3, g4, q, g5, g6, g7, g8, g9⟩ := h5
    refine ⟨g1, hV2.trans g2, ?_, ?_, q, g5, g6, g7, ?_, ?_⟩
    · show J2 (x + 562) 1 = 0
      rw [e1]; exact g3
    · show J2 (x + 562) 3 = nI n
      rw [e1]; exact g4
    · show sb_Lat t n (J2 b)
      rw [e2]; exact g8
    · show sb_Fit (J2 b)
      rw [e2]; exact g9
  · obtain ⟨g1, g2, g3⟩ := h6
    exact ⟨by rw [hM.2, hA m (by omega)]; exact g1, g2, fun i hi => ⟨(g3 i hi).1, by rw [hM.1 _ (by omega), hA _ (by omega)]; exact (g3 i hi).2⟩⟩
/-- the V of the start, as the contracts of scripts want it -/
theorem lw_ve (h : lwI Z x m o B S I V) : V = ve_f Z (x + 515) I V := by
  funext a k
  unfold ve_f
  split
  · rename_i hc
    obtain ⟨i, hi, rfl⟩ := ve_ci hc.2
    rw [hc.1]
    exact h.2.2.2.1 i hi
  · rfl
/-- the row of a verb's place, as or_ghs wants it -/
theorem gh_S (hS : au_S S x) : ∀ (a k : Nat), gh x I I' a k ≠ I' a k → ∃ (ci : Nat) (κ : Nat → Option (Option Value)), S a = some (.inl (ci, κ)) ∧ κ k = some none := by
  intro a k hne
  by_cases hc : k = 0 ∧ ve_c (x + 515) a = true
  · obtain ⟨i, hi, rfl⟩ := ve_ci hc.2
    rw [hc.1]
    exact ⟨_, _, (hS.2.2.2.2.2.2.1.2.2.2.2 i hi).1, rfl⟩
  · exact (hne (by unfold gh; rw [if_neg hc])).elim
/-- what the reference's contracts ask -/
theorem lw_o (h : RR x m B I J) : (0 ≤ J m 1 ∧ tn (J m 1) < 8) ∧ 0 ≤ J m 2 ∧ tn (J m 2) ≤ 8 := by
  obtain ⟨o, k, g1, g2, g3, g4, -⟩ := h.2.2.1
  rw [g1, g3, tn_nI (by omega), tn_nI (by omega)]
  exact ⟨⟨nI_ge0 (by omega), g2⟩, nI_ge0 (by omega), g4⟩
theorem lw_5 (h : RR x m B I J) : 0 ≤ J m 5 ∧ tn (J m 5) ≤ 500 := by
  obtain ⟨n, -, g1, g2, -⟩ := h.2.2.2.2.1
  rw [g1, tn_nI (by omega)]
  exact ⟨nI_ge0 (by omega), g2⟩
theorem lw_0 (h : RR x m B I J) : 0 ≤ J (m + 1) 0 ∧ tn (J (m + 1) 0) ≤ 60 := by
  obtain ⟨p, l, g1, g2, g3, -⟩ := h.2.1.2.2.1.1
  rw [g1, tn_nI (by omega)]
  exact ⟨nI_ge0 (by omega), g3⟩
end LWI
/-! what a wrapper of a functional contract leaves -/
section WKS
variable {S : Nat → Option ow_Sh} {V : Nat → Nat → Value} {z c o : Nat} {I' : ow_I} {l : List Nat} {r : Option Value} {h1 : ow_H}
theorem wk_c {c' : Nat} {v : Option Value} (hk : ox_s S V z c v I' c' none h1) : c' = c := hk.1
theorem wr_I {a : Int32} {h0 : ow_H} (hS : S o = some (.inr (.long, 1, ol_l))) (hk : ox_s S V z c (some (.int a)) I' 0 r h0) : ∃ a : Int32, r = some (.int a) ∧ h0.1 o = some (.inr (.long, 1, ol_l)) := by
  obtain ⟨e, f, -⟩ := hk
  obtain ⟨rfl, rfl⟩ := f e.symm
  exact ⟨a, rfl, hS⟩
theorem wr_F {a : UInt32} {h0 : ow_H} (hS : S o = some (.inr (.double, 1, ol_l))) (hn : c = 0 → vf_n64 (FP.f2d a)) (hk : ox_s S V z c (some (.float a)) I' 0 r h0) : ∃ a : UInt32, r = some (.float a) ∧ vf_n64 (FP.f2d a) ∧ h0.1 o = some (.inr (.double, 1, ol_l)) := by
  obtain ⟨e, f, -⟩ := hk
  obtain ⟨rfl, rfl⟩ := f e.symm
  exact ⟨a, rfl, hn e.symm, hS⟩
theorem wr_D {a : UInt64} {h0 : ow_H} (hS : S o = some (.inr (.double, 1, ol_l))) (hk : ox_s S V z c (some (.double a)) I' 0 r h0) : ∃ a : UInt64, r = some (.double a) ∧ h0.1 o = some (.inr (.double, 1, ol_l)) := by
  obtain ⟨e, f, -⟩ := hk
  obtain ⟨rfl, rfl⟩ := f e.symm
  exact ⟨a, rfl, hS⟩
theorem wr_N {h0 : ow_H} (hk : ox_s S V z c none I' 0 r h0) : r = none := (hk.2.1 hk.1.symm).1
theorem kx_0 : kx l 0 = 0 := rfl
theorem wK_I {a : Int32} (hk : wK (ox_s S V z c (some (.int a)) I') (wI o) l r h1) : r = some (.int (nI (kx l c))) ∧ ∃ (V1 : Nat → Nat → Value) (z1 : Nat), h1 = (S, I', V1, z1) ∧ z ≤ z1 ∧ (c = 0 → V1 o 0 = .long a.toInt64) ∧ ∀ b, b ≠ o → V1 b = V b := by
  rcases hk with ⟨v, h0, ⟨e, f, -⟩, g1, i, g2, g3⟩ | ⟨c', hc, ⟨e, -, f⟩, g1⟩
  · obtain ⟨rfl, rfl⟩ := f e.symm
    cases g2
    subst e
    exact ⟨g1, _, z, g3, Nat.le_refl _, fun _ => ow_u_s _ _ _ _, fun b hb => by funext j; exact ow_u_a _ _ _ _ hb j⟩
  · subst e
    obtain ⟨-, z1, hz, rfl⟩ := f hc
    exact ⟨g1, V, z1, rfl, hz, fun h => absurd h (by omega), fun _ _ => rfl⟩
theorem wK_D {a : UInt64} (hk : wK (ox_s S V z c (some (.double a)) I') (wD o) l r h1) : r = some (.int (nI (kx l c))) ∧ ∃ (V1 : Nat → Nat → Value) (z1 : Nat), h1 = (S, I', V1, z1) ∧ z ≤ z1 ∧ (c = 0 → V1 o 0 = .double a) ∧ ∀ b, b ≠ o → V1 b = V b := by
  rcases hk with ⟨v, h0, ⟨e, f, -⟩, g1, i, g2, g3⟩ | ⟨c', hc, ⟨e, -, f⟩, g1⟩
  · obtain ⟨rfl, rfl⟩ := f e.symm
    cases g2
    subst e
    exact ⟨g1, _, z, g3, Nat.le_refl _, fun _ => ow_u_s _ _ _ _, fun b hb => by funext j; exact ow_u_a _ _ _ _ hb j⟩
  · subst e
    obtain ⟨-, z1, hz, rfl⟩ := f hc
    exact ⟨g1, V, z1, rfl, hz, fun h => absurd h (by omega), fun _ _ => rfl⟩
theorem wK_F {a : UInt32} (hk : wK (ox_s S V z c (some (.float a)) I') (wF o) l r h1) : r = some (.int (nI (kx l c))) ∧ ∃ (V1 : Nat → Nat → Value) (z1 : Nat), h1 = (S, I', V1, z1) ∧ z ≤ z1 ∧ (c = 0 → V1 o 0 = .double (FP.f2d a)) ∧ ∀ b, b ≠ o → V1 b = V b := by
  rcases hk with ⟨v, h0, ⟨e, f, -⟩, g1, i, g2, g3⟩ | ⟨c', hc, ⟨e, -, f⟩, g1⟩
  · obtain ⟨rfl, rfl⟩ := f e.symm
    cases g2
    subst e
    exact ⟨g1, _, z, g3, Nat.le_refl _, fun _ => ow_u_s _ _ _ _, fun b hb => by funext j; exact ow_u_a _ _ _ _ hb j⟩
  · subst e
    obtain ⟨-, z1, hz, rfl⟩ := f hc
    exact ⟨g1, V, z1, rfl, hz, fun h => absurd h (by omega), fun _ _ => rfl⟩
theorem wK_N (hk : wK (ox_s S V z c none I') wN l r h1) : r = some (.int (nI (kx l c))) ∧ ∃ z1 : Nat, h1 = (S, I', V, z1) ∧ z ≤ z1 := by
  rcases hk with ⟨v, h0, ⟨e, f, -⟩, g1, g3⟩ | ⟨c', hc, ⟨e, -, f⟩, g1⟩
  · obtain ⟨-, rfl⟩ := f e.symm
    subst e
    exact ⟨g1, z, g3, Nat.le_refl _⟩
  · subst e
    obtain ⟨-, z1, hz, rfl⟩ := f hc
    exact ⟨g1, z1, rfl, hz⟩
end WKS
/-! which throws: of each method that the law's wrappers catch -/
section TCX
variable {x : Nat} {I : ow_I}
theorem tb_rng {v l m : Int32} : A_requireRange v l m I = 0 ∨ A_requireRange v l m I = 1 := by
  unfold A_requireRange
  (repeat' split) <;> simp
theorem tb_sta {b : Bool} : A_requireState b I = 0 ∨ A_requireState b I = 2 := by
  unfold A_requireState
  split <;> simp
theorem tb_buy {b : Int32} : A_requireBuyer x b I = 0 ∨ A_requireBuyer x b I = 3 := by
  unfold A_requireBuyer
  split <;> simp
theorem tb_bar {b : Int32} : A_requireBarrel x b I = 0 ∨ A_requireBarrel x b I = 3 := by
  unfold A_requireBarrel
  split <;> simp
theorem tb_bat {b : Int32} : A_barrelAt x b I = 0 ∨ A_barrelAt x b I = 3 := by
  unfold A_barrelAt
  split
  · exact Or.inl rfl
  · exact tb_bar
theorem tb_yat {b : Int32} : A_buyerAt x b I = 0 ∨ A_buyerAt x b I = 3 := by
  unfold A_buyerAt
  split
  · exact Or.inl rfl
  · exact tb_buy
theorem tl_ms {b : Int32} : ∀ (k : Nat) (I : ow_I) (i : Nat), (A_minutesToSale_L37 x b k I i).1 = 0 := by
  intro k
  induction k with
  | zero => intro I i; rfl
  | succ k ih =>
    intro I i
    unfold A_minutesToSale_L37
    split
    · rfl
    · rw [lt_eq]
      split
      · rfl
      · exact ih _ _
theorem tl_bs {n : Int32} : ∀ (k : Nat) (I : ow_I) (w o : Int32) (i : Nat), (A_bestStep_L15 x n k I w o i).1 = 0 := by
  intro k
  induction k with
  | zero => intro I w o i; rfl
  | succ k ih =>
    intro I w o i
    unfold A_bestStep_L15
    split
    · rfl
    · rw [lt_eq]
      split <;> exact ih _ _ _ _
theorem tl_rs : ∀ (k : Nat) (I : ow_I) (i : Nat), (A_runScript_L53 x k I i).1 = 0 := by
  intro k
  induction k with
  | zero => intro I i; rfl
  | succ k ih =>
    intro I i
    unfold A_runScript_L53
    split
    · rfl
    · rw [lt_eq]
      split
      · exact ih _ _
      · rfl
theorem tc_append {p0 : Int32} {p1 : Int32} {p2 : Int32} {p3 : Int32} {p4 : Int32} : (A_append x p0 p1 p2 p3 p4 I).1 = 0 ∨ (A_append x p0 p1 p2 p3 p4 I).1 = 2 := by
  simp only [A_append, lt_eq]
  (repeat' split) <;> (try dsimp only) <;> first | with_reducible exact Or.inl (rfl) | with_reducible exact Or.inr (rfl) | with_reducible exact tb_sta.elim (fun h => Or.inl (h)) (fun h => Or.inr (h)) | with_reducible exact Or.inl (tl_ms _ _ _) | with_reducible exact Or.inl (tl_bs _ _ _ _ _) | with_reducible exact Or.inl (tl_rs _ _ _)
theorem tc_truncate {p0 : Int32} : (A_truncate x p0 I).1 = 0 ∨ (A_truncate x p0 I).1 = 1 := by
  simp only [A_truncate, lt_eq]
  (repeat' split) <;> (try dsimp only) <;> first | with_reducible exact Or.inl (rfl) | with_reducible exact Or.inr (rfl) | with_reducible exact tb_rng.elim (fun h => Or.inl (h)) (fun h => Or.inr (h)) | with_reducible exact Or.inl (tl_ms _ _ _) | with_reducible exact Or.inl (tl_bs _ _ _ _ _) | with_reducible exact Or.inl (tl_rs _ _ _)
theorem tc_loadSetup : (A_loadSetup x I).1 = 0 ∨ (A_loadSetup x I).1 = 1 := by
  simp only [A_loadSetup, lt_eq]
  (repeat' split) <;> (try dsimp only) <;> first | with_reducible exact Or.inl (rfl) | with_reducible exact Or.inr (rfl) | with_reducible exact tb_rng.elim (fun h => Or.inl (h)) (fun h => Or.inr (h)) | with_reducible exact Or.inl (tl_ms _ _ _) | with_reducible exact Or.inl (tl_bs _ _ _ _ _) | with_reducible exact Or.inl (tl_rs _ _ _)
theorem tc_runScript : (A_runScript x I).1 = 0 ∨ (A_runScript x I).1 = 1 := by
  simp only [A_runScript, lt_eq]
  (repeat' split) <;> (try dsimp only) <;> first | with_reducible exact Or.inl (rfl) | with_reducible exact Or.inr (rfl) | with_reducible exact tb_rng.elim (fun h => Or.inl (h)) (fun h => Or.inr (h)) | with_reducible exact Or.inl (tl_ms _ _ _) | with_reducible exact Or.inl (tl_bs _ _ _ _ _) | with_reducible exact Or.inl (tl_rs _ _ _)
theorem tc_nod {p0 : Int32} : (A_nod x p0 I).1 = 0 ∨ (A_nod x p0 I).1 = 3 ∨ (A_nod x p0 I).1 = 2 := by
  simp only [A_nod, lt_eq]
  (repeat' split) <;> (try dsimp only) <;> first | with_reducible exact Or.inl (rfl) | with_reducible exact Or.inr (Or.inl (rfl)) | with_reducible exact Or.inr (Or.inr (rfl)) | with_reducible exact tb_sta.elim (fun h => Or.inl (h)) (fun h => Or.inr (Or.inr (h))) | with_reducible exact tb_buy.elim (fun h => Or.inl (h)) (fun h => Or.inr (Or.inl (h))) | with_reducible exact tb_bar.elim (fun h => Or.inl (h)) (fun h => Or.inr (Or.inl (h))) | with_reducible exact tb_bat.elim (fun h => Or.inl (h)) (fun h => Or.inr (Or.inl (h))) | with_reducible exact tb_yat.elim (fun h => Or.inl (h)) (fun h => Or.inr (Or.inl (h))) | with_reducible exact Or.inl (tl_ms _ _ _) | with_reducible exact Or.inl (tl_bs _ _ _ _ _) | with_reducible exact Or.inl (tl_rs _ _ _)
theorem tc_passMinutes {p0 : Int32} : (A_passMinutes x p0 I).1 = 0 ∨ (A_passMinutes x p0 I).1 = 1 := by
  simp only [A_passMinutes, lt_eq]
  (repeat' split) <;> (try dsimp only) <;> first | with_reducible exact Or.inl (rfl) | with_reducible exact Or.inr (rfl) | with_reducible exact tb_rng.elim (fun h => Or.inl (h)) (fun h => Or.inr (h)) | with_reducible exact Or.inl (tl_ms _ _ _) | with_reducible exact Or.inl (tl_bs _ _ _ _ _) | with_reducible exact Or.inl (tl_rs _ _ _)
theorem tc_addBarrel {p0 : Int32} {p1 : Int32} {p2 : Int32} : (A_addBarrel x p0 p1 p2 I).1 = 0 ∨ (A_addBarrel x p0 p1 p2 I).1 = 1 ∨ (A_addBarrel x p0 p1 p2 I).1 = 2 := by
  simp only [A_addBarrel, lt_eq]
  (repeat' split) <;> (try dsimp only) <;> first | with_reducible exact Or.inl (rfl) | with_reducible exact Or.inr (Or.inl (rfl)) | with_reducible exact Or.inr (Or.inr (rfl)) | with_reducible exact tb_rng.elim (fun h => Or.inl (h)) (fun h => Or.inr (Or.inl (h))) | with_reducible exact tb_sta.elim (fun h => Or.inl (h)) (fun h => Or.inr (Or.inr (h))) | with_reducible exact Or.inl (tl_ms _ _ _) | with_reducible exact Or.inl (tl_bs _ _ _ _ _) | with_reducible exact Or.inl (tl_rs _ _ _)
theorem tc_split {p0 : Int32} {p1 : Int32} : (A_split x p0 p1 I).1 = 0 ∨ (A_split x p0 p1 I).1 = 3 ∨ (A_split x p0 p1 I).1 = 1 ∨ (A_split x p0 p1 I).1 = 2 := by
  simp only [A_split, lt_eq]
  (repeat' split) <;> (try dsimp only) <;> first | with_reducible exact Or.inl (rfl) | with_reducible exact Or.inr (Or.inl (rfl)) | with_reducible exact Or.inr (Or.inr (Or.inl (rfl))) | with_reducible exact Or.inr (Or.inr (Or.inr (rfl))) | with_reducible exact tb_rng.elim (fun h => Or.inl (h)) (fun h => Or.inr (Or.inr (Or.inl (h)))) | with_reducible exact tb_sta.elim (fun h => Or.inl (h)) (fun h => Or.inr (Or.inr (Or.inr (h)))) | with_reducible exact tb_buy.elim (fun h => Or.inl (h)) (fun h => Or.inr (Or.inl (h))) | with_reducible exact tb_bar.elim (fun h => Or.inl (h)) (fun h => Or.inr (Or.inl (h))) | with_reducible exact tb_bat.elim (fun h => Or.inl (h)) (fun h => Or.inr (Or.inl (h))) | with_reducible exact tb_yat.elim (fun h => Or.inl (h)) (fun h => Or.inr (Or.inl (h))) | with_reducible exact Or.inl (tl_ms _ _ _) | with_reducible exact Or.inl (tl_bs _ _ _ _ _) | with_reducible exact Or.inl (tl_rs _ _ _)
theorem tc_withdraw {p0 : Int32} : (A_withdraw x p0 I).1 = 0 ∨ (A_withdraw x p0 I).1 = 3 ∨ (A_withdraw x p0 I).1 = 2 := by
  simp only [A_withdraw, lt_eq]
  (repeat' split) <;> (try dsimp only) <;> first | with_reducible exact Or.inl (rfl) | with_reducible exact Or.inr (Or.inl (rfl)) | with_reducible exact Or.inr (Or.inr (rfl)) | with_reducible exact tb_sta.elim (fun h => Or.inl (h)) (fun h => Or.inr (Or.inr (h))) | with_reducible exact tb_buy.elim (fun h => Or.inl (h)) (fun h => Or.inr (Or.inl (h))) | with_reducible exact tb_bar.elim (fun h => Or.inl (h)) (fun h => Or.inr (Or.inl (h))) | with_reducible exact tb_bat.elim (fun h => Or.inl (h)) (fun h => Or.inr (Or.inl (h))) | with_reducible exact tb_yat.elim (fun h => Or.inl (h)) (fun h => Or.inr (Or.inl (h))) | with_reducible exact Or.inl (tl_ms _ _ _) | with_reducible exact Or.inl (tl_bs _ _ _ _ _) | with_reducible exact Or.inl (tl_rs _ _ _)
theorem tc_fund {p0 : Int32} {p1 : Int32} : (A_fund x p0 p1 I).1 = 0 ∨ (A_fund x p0 p1 I).1 = 3 ∨ (A_fund x p0 p1 I).1 = 1 := by
  simp only [A_fund, lt_eq]
  (repeat' split) <;> (try dsimp only) <;> first | with_reducible exact Or.inl (rfl) | with_reducible exact Or.inr (Or.inl (rfl)) | with_reducible exact Or.inr (Or.inr (rfl)) | with_reducible exact tb_rng.elim (fun h => Or.inl (h)) (fun h => Or.inr (Or.inr (h))) | with_reducible exact tb_buy.elim (fun h => Or.inl (h)) (fun h => Or.inr (Or.inl (h))) | with_reducible exact tb_bar.elim (fun h => Or.inl (h)) (fun h => Or.inr (Or.inl (h))) | with_reducible exact tb_bat.elim (fun h => Or.inl (h)) (fun h => Or.inr (Or.inl (h))) | with_reducible exact tb_yat.elim (fun h => Or.inl (h)) (fun h => Or.inr (Or.inl (h))) | with_reducible exact Or.inl (tl_ms _ _ _) | with_reducible exact Or.inl (tl_bs _ _ _ _ _) | with_reducible exact Or.inl (tl_rs _ _ _)
theorem tc_setReserve {p0 : Int32} {p1 : Int32} : (A_setReserve x p0 p1 I).1 = 0 ∨ (A_setReserve x p0 p1 I).1 = 3 ∨ (A_setReserve x p0 p1 I).1 = 1 ∨ (A_setReserve x p0 p1 I).1 = 2 := by
  simp only [A_setReserve, lt_eq]
  (repeat' split) <;> (try dsimp only) <;> first | with_reducible exact Or.inl (rfl) | with_reducible exact Or.inr (Or.inl (rfl)) | with_reducible exact Or.inr (Or.inr (Or.inl (rfl))) | with_reducible exact Or.inr (Or.inr (Or.inr (rfl))) | with_reducible exact tb_rng.elim (fun h => Or.inl (h)) (fun h => Or.inr (Or.inr (Or.inl (h)))) | with_reducible exact tb_sta.elim (fun h => Or.inl (h)) (fun h => Or.inr (Or.inr (Or.inr (h)))) | with_reducible exact tb_buy.elim (fun h => Or.inl (h)) (fun h => Or.inr (Or.inl (h))) | with_reducible exact tb_bar.elim (fun h => Or.inl (h)) (fun h => Or.inr (Or.inl (h))) | with_reducible exact tb_bat.elim (fun h => Or.inl (h)) (fun h => Or.inr (Or.inl (h))) | with_reducible exact tb_yat.elim (fun h => Or.inl (h)) (fun h => Or.inr (Or.inl (h))) | with_reducible exact Or.inl (tl_ms _ _ _) | with_reducible exact Or.inl (tl_bs _ _ _ _ _) | with_reducible exact Or.inl (tl_rs _ _ _)
theorem tc_setStep {p0 : Int32} : (A_setStep x p0 I).1 = 0 ∨ (A_setStep x p0 I).1 = 1 := by
  simp only [A_setStep, lt_eq]
  (repeat' split) <;> (try dsimp only) <;> first | with_reducible exact Or.inl (rfl) | with_reducible exact Or.inr (rfl) | with_reducible exact tb_rng.elim (fun h => Or.inl (h)) (fun h => Or.inr (h)) | with_reducible exact Or.inl (tl_ms _ _ _) | with_reducible exact Or.inl (tl_bs _ _ _ _ _) | with_reducible exact Or.inl (tl_rs _ _ _)
theorem tc_setTaste {p0 : Int32} {p1 : Int32} {p2 : Int32} : (A_setTaste x p0 p1 p2 I).1 = 0 ∨ (A_setTaste x p0 p1 p2 I).1 = 3 ∨ (A_setTaste x p0 p1 p2 I).1 = 1 := by
  simp only [A_setTaste, lt_eq]
  (repeat' split) <;> (try dsimp only) <;> first | with_reducible exact Or.inl (rfl) | with_reducible exact Or.inr (Or.inl (rfl)) | with_reducible exact Or.inr (Or.inr (rfl)) | with_reducible exact tb_rng.elim (fun h => Or.inl (h)) (fun h => Or.inr (Or.inr (h))) | with_reducible exact tb_buy.elim (fun h => Or.inl (h)) (fun h => Or.inr (Or.inl (h))) | with_reducible exact tb_bar.elim (fun h => Or.inl (h)) (fun h => Or.inr (Or.inl (h))) | with_reducible exact tb_bat.elim (fun h => Or.inl (h)) (fun h => Or.inr (Or.inl (h))) | with_reducible exact tb_yat.elim (fun h => Or.inl (h)) (fun h => Or.inr (Or.inl (h))) | with_reducible exact Or.inl (tl_ms _ _ _) | with_reducible exact Or.inl (tl_bs _ _ _ _ _) | with_reducible exact Or.inl (tl_rs _ _ _)
theorem tc_undo : (A_undo x I).1 = 0 ∨ (A_undo x I).1 = 4 := by
  simp only [A_undo, lt_eq]
  (repeat' split) <;> (try dsimp only) <;> first | with_reducible exact Or.inl (rfl) | with_reducible exact Or.inr (rfl) | with_reducible exact Or.inl (tl_ms _ _ _) | with_reducible exact Or.inl (tl_bs _ _ _ _ _) | with_reducible exact Or.inl (tl_rs _ _ _)
theorem tc_saveSnapshot {p0 : Int32} : (A_saveSnapshot x p0 I).1 = 0 ∨ (A_saveSnapshot x p0 I).1 = 1 := by
  simp only [A_saveSnapshot, lt_eq]
  (repeat' split) <;> (try dsimp only) <;> first | with_reducible exact Or.inl (rfl) | with_reducible exact Or.inr (rfl) | with_reducible exact tb_rng.elim (fun h => Or.inl (h)) (fun h => Or.inr (h)) | with_reducible exact Or.inl (tl_ms _ _ _) | with_reducible exact Or.inl (tl_bs _ _ _ _ _) | with_reducible exact Or.inl (tl_rs _ _ _)
theorem tc_restoreSnapshot {p0 : Int32} : (A_restoreSnapshot x p0 I).1 = 0 ∨ (A_restoreSnapshot x p0 I).1 = 1 ∨ (A_restoreSnapshot x p0 I).1 = 4 := by
  simp only [A_restoreSnapshot, lt_eq]
  (repeat' split) <;> (try dsimp only) <;> first | with_reducible exact Or.inl (rfl) | with_reducible exact Or.inr (Or.inl (rfl)) | with_reducible exact Or.inr (Or.inr (rfl)) | with_reducible exact tb_rng.elim (fun h => Or.inl (h)) (fun h => Or.inr (Or.inl (h))) | with_reducible exact Or.inl (tl_ms _ _ _) | with_reducible exact Or.inl (tl_bs _ _ _ _ _) | with_reducible exact Or.inl (tl_rs _ _ _)
theorem tc_eels {p0 : Int32} : (A_eels x p0 I).1 = 0 ∨ (A_eels x p0 I).1 = 3 := by
  simp only [A_eels, lt_eq]
  (repeat' split) <;> (try dsimp only) <;> first | with_reducible exact Or.inl (rfl) | with_reducible exact Or.inr (rfl) | with_reducible exact tb_buy.elim (fun h => Or.inl (h)) (fun h => Or.inr (h)) | with_reducible exact tb_bar.elim (fun h => Or.inl (h)) (fun h => Or.inr (h)) | with_reducible exact tb_bat.elim (fun h => Or.inl (h)) (fun h => Or.inr (h)) | with_reducible exact tb_yat.elim (fun h => Or.inl (h)) (fun h => Or.inr (h)) | with_reducible exact Or.inl (tl_ms _ _ _) | with_reducible exact Or.inl (tl_bs _ _ _ _ _) | with_reducible exact Or.inl (tl_rs _ _ _)
theorem tc_length {p0 : Int32} {p1 : Int32} : (A_length x p0 p1 I).1 = 0 ∨ (A_length x p0 p1 I).1 = 3 := by
  simp only [A_length, lt_eq]
  (repeat' split) <;> (try dsimp only) <;> first | with_reducible exact Or.inl (rfl) | with_reducible exact Or.inr (rfl) | with_reducible exact tb_buy.elim (fun h => Or.inl (h)) (fun h => Or.inr (h)) | with_reducible exact tb_bar.elim (fun h => Or.inl (h)) (fun h => Or.inr (h)) | with_reducible exact tb_bat.elim (fun h => Or.inl (h)) (fun h => Or.inr (h)) | with_reducible exact tb_yat.elim (fun h => Or.inl (h)) (fun h => Or.inr (h)) | with_reducible exact Or.inl (tl_ms _ _ _) | with_reducible exact Or.inl (tl_bs _ _ _ _ _) | with_reducible exact Or.inl (tl_rs _ _ _)
theorem tc_totalLength {p0 : Int32} : (A_totalLength x p0 I).1 = 0 ∨ (A_totalLength x p0 I).1 = 3 := by
  simp only [A_totalLength, lt_eq]
  (repeat' split) <;> (try dsimp only) <;> first | with_reducible exact Or.inl (rfl) | with_reducible exact Or.inr (rfl) | with_reducible exact tb_buy.elim (fun h => Or.inl (h)) (fun h => Or.inr (h)) | with_reducible exact tb_bar.elim (fun h => Or.inl (h)) (fun h => Or.inr (h)) | with_reducible exact tb_bat.elim (fun h => Or.inl (h)) (fun h => Or.inr (h)) | with_reducible exact tb_yat.elim (fun h => Or.inl (h)) (fun h => Or.inr (h)) | with_reducible exact Or.inl (tl_ms _ _ _) | with_reducible exact Or.inl (tl_bs _ _ _ _ _) | with_reducible exact Or.inl (tl_rs _ _ _)
theorem tc_greatestLength {p0 : Int32} : (A_greatestLength x p0 I).1 = 0 ∨ (A_greatestLength x p0 I).1 = 3 := by
  simp only [A_greatestLength, lt_eq]
  (repeat' split) <;> (try dsimp only) <;> first | with_reducible exact Or.inl (rfl) | with_reducible exact Or.inr (rfl) | with_reducible exact tb_buy.elim (fun h => Or.inl (h)) (fun h => Or.inr (h)) | with_reducible exact tb_bar.elim (fun h => Or.inl (h)) (fun h => Or.inr (h)) | with_reducible exact tb_bat.elim (fun h => Or.inl (h)) (fun h => Or.inr (h)) | with_reducible exact tb_yat.elim (fun h => Or.inl (h)) (fun h => Or.inr (h)) | with_reducible exact Or.inl (tl_ms _ _ _) | with_reducible exact Or.inl (tl_bs _ _ _ _ _) | with_reducible exact Or.inl (tl_rs _ _ _)
theorem tc_middleLength {p0 : Int32} : (A_middleLength x p0 I).1 = 0 ∨ (A_middleLength x p0 I).1 = 3 := by
  simp only [A_middleLength, lt_eq]
  (repeat' split) <;> (try dsimp only) <;> first | with_reducible exact Or.inl (rfl) | with_reducible exact Or.inr (rfl) | with_reducible exact tb_buy.elim (fun h => Or.inl (h)) (fun h => Or.inr (h)) | with_reducible exact tb_bar.elim (fun h => Or.inl (h)) (fun h => Or.inr (h)) | with_reducible exact tb_bat.elim (fun h => Or.inl (h)) (fun h => Or.inr (h)) | with_reducible exact tb_yat.elim (fun h => Or.inl (h)) (fun h => Or.inr (h)) | with_reducible exact Or.inl (tl_ms _ _ _) | with_reducible exact Or.inl (tl_bs _ _ _ _ _) | with_reducible exact Or.inl (tl_rs _ _ _)
theorem tc_reserve {p0 : Int32} : (A_reserve x p0 I).1 = 0 ∨ (A_reserve x p0 I).1 = 3 := by
  simp only [A_reserve, lt_eq]
  (repeat' split) <;> (try dsimp only) <;> first | with_reducible exact Or.inl (rfl) | with_reducible exact Or.inr (rfl) | with_reducible exact tb_buy.elim (fun h => Or.inl (h)) (fun h => Or.inr (h)) | with_reducible exact tb_bar.elim (fun h => Or.inl (h)) (fun h => Or.inr (h)) | with_reducible exact tb_bat.elim (fun h => Or.inl (h)) (fun h => Or.inr (h)) | with_reducible exact tb_yat.elim (fun h => Or.inl (h)) (fun h => Or.inr (h)) | with_reducible exact Or.inl (tl_ms _ _ _) | with_reducible exact Or.inl (tl_bs _ _ _ _ _) | with_reducible exact Or.inl (tl_rs _ _ _)
theorem tc_stateOf {p0 : Int32} : (A_stateOf x p0 I).1 = 0 ∨ (A_stateOf x p0 I).1 = 3 := by
  simp only [A_stateOf, lt_eq]
  (repeat' split) <;> (try dsimp only) <;> first | with_reducible exact Or.inl (rfl) | with_reducible exact Or.inr (rfl) | with_reducible exact tb_buy.elim (fun h => Or.inl (h)) (fun h => Or.inr (h)) | with_reducible exact tb_bar.elim (fun h => Or.inl (h)) (fun h => Or.inr (h)) | with_reducible exact tb_bat.elim (fun h => Or.inl (h)) (fun h => Or.inr (h)) | with_reducible exact tb_yat.elim (fun h => Or.inl (h)) (fun h => Or.inr (h)) | with_reducible exact Or.inl (tl_ms _ _ _) | with_reducible exact Or.inl (tl_bs _ _ _ _ _) | with_reducible exact Or.inl (tl_rs _ _ _)
theorem tc_returns {p0 : Int32} : (A_returns x p0 I).1 = 0 ∨ (A_returns x p0 I).1 = 3 := by
  simp only [A_returns, lt_eq]
  (repeat' split) <;> (try dsimp only) <;> first | with_reducible exact Or.inl (rfl) | with_reducible exact Or.inr (rfl) | with_reducible exact tb_buy.elim (fun h => Or.inl (h)) (fun h => Or.inr (h)) | with_reducible exact tb_bar.elim (fun h => Or.inl (h)) (fun h => Or.inr (h)) | with_reducible exact tb_bat.elim (fun h => Or.inl (h)) (fun h => Or.inr (h)) | with_reducible exact tb_yat.elim (fun h => Or.inl (h)) (fun h => Or.inr (h)) | with_reducible exact Or.inl (tl_ms _ _ _) | with_reducible exact Or.inl (tl_bs _ _ _ _ _) | with_reducible exact Or.inl (tl_rs _ _ _)
theorem tc_buyerOf {p0 : Int32} : (A_buyerOf x p0 I).1 = 0 ∨ (A_buyerOf x p0 I).1 = 3 := by
  simp only [A_buyerOf, lt_eq]
  (repeat' split) <;> (try dsimp only) <;> first | with_reducible exact Or.inl (rfl) | with_reducible exact Or.inr (rfl) | with_reducible exact tb_buy.elim (fun h => Or.inl (h)) (fun h => Or.inr (h)) | with_reducible exact tb_bar.elim (fun h => Or.inl (h)) (fun h => Or.inr (h)) | with_reducible exact tb_bat.elim (fun h => Or.inl (h)) (fun h => Or.inr (h)) | with_reducible exact tb_yat.elim (fun h => Or.inl (h)) (fun h => Or.inr (h)) | with_reducible exact Or.inl (tl_ms _ _ _) | with_reducible exact Or.inl (tl_bs _ _ _ _ _) | with_reducible exact Or.inl (tl_rs _ _ _)
theorem tc_priceOf {p0 : Int32} : (A_priceOf x p0 I).1 = 0 ∨ (A_priceOf x p0 I).1 = 3 := by
  simp only [A_priceOf, lt_eq]
  (repeat' split) <;> (try dsimp only) <;> first | with_reducible exact Or.inl (rfl) | with_reducible exact Or.inr (rfl) | with_reducible exact tb_buy.elim (fun h => Or.inl (h)) (fun h => Or.inr (h)) | with_reducible exact tb_bar.elim (fun h => Or.inl (h)) (fun h => Or.inr (h)) | with_reducible exact tb_bat.elim (fun h => Or.inl (h)) (fun h => Or.inr (h)) | with_reducible exact tb_yat.elim (fun h => Or.inl (h)) (fun h => Or.inr (h)) | with_reducible exact Or.inl (tl_ms _ _ _) | with_reducible exact Or.inl (tl_bs _ _ _ _ _) | with_reducible exact Or.inl (tl_rs _ _ _)
theorem tc_pricePerLength {p0 : Int32} : (A_pricePerLength x p0 I).1 = 0 ∨ (A_pricePerLength x p0 I).1 = 3 := by
  simp only [A_pricePerLength, lt_eq]
  (repeat' split) <;> (try dsimp only) <;> first | with_reducible exact Or.inl (rfl) | with_reducible exact Or.inr (rfl) | with_reducible exact tb_buy.elim (fun h => Or.inl (h)) (fun h => Or.inr (h)) | with_reducible exact tb_bar.elim (fun h => Or.inl (h)) (fun h => Or.inr (h)) | with_reducible exact tb_bat.elim (fun h => Or.inl (h)) (fun h => Or.inr (h)) | with_reducible exact tb_yat.elim (fun h => Or.inl (h)) (fun h => Or.inr (h)) | with_reducible exact Or.inl (tl_ms _ _ _) | with_reducible exact Or.inl (tl_bs _ _ _ _ _) | with_reducible exact Or.inl (tl_rs _ _ _)
theorem tc_purse {p0 : Int32} : (A_purse x p0 I).1 = 0 ∨ (A_purse x p0 I).1 = 3 := by
  simp only [A_purse, lt_eq]
  (repeat' split) <;> (try dsimp only) <;> first | with_reducible exact Or.inl (rfl) | with_reducible exact Or.inr (rfl) | with_reducible exact tb_buy.elim (fun h => Or.inl (h)) (fun h => Or.inr (h)) | with_reducible exact tb_bar.elim (fun h => Or.inl (h)) (fun h => Or.inr (h)) | with_reducible exact tb_bat.elim (fun h => Or.inl (h)) (fun h => Or.inr (h)) | with_reducible exact tb_yat.elim (fun h => Or.inl (h)) (fun h => Or.inr (h)) | with_reducible exact Or.inl (tl_ms _ _ _) | with_reducible exact Or.inl (tl_bs _ _ _ _ _) | with_reducible exact Or.inl (tl_rs _ _ _)
theorem tc_style {p0 : Int32} : (A_style x p0 I).1 = 0 ∨ (A_style x p0 I).1 = 3 := by
  simp only [A_style, lt_eq]
  (repeat' split) <;> (try dsimp only) <;> first | with_reducible exact Or.inl (rfl) | with_reducible exact Or.inr (rfl) | with_reducible exact tb_buy.elim (fun h => Or.inl (h)) (fun h => Or.inr (h)) | with_reducible exact tb_bar.elim (fun h => Or.inl (h)) (fun h => Or.inr (h)) | with_reducible exact tb_bat.elim (fun h => Or.inl (h)) (fun h => Or.inr (h)) | with_reducible exact tb_yat.elim (fun h => Or.inl (h)) (fun h => Or.inr (h)) | with_reducible exact Or.inl (tl_ms _ _ _) | with_reducible exact Or.inl (tl_bs _ _ _ _ _) | with_reducible exact Or.inl (tl_rs _ _ _)
theorem tc_factor {p0 : Int32} : (A_factor x p0 I).1 = 0 ∨ (A_factor x p0 I).1 = 3 := by
  simp only [A_factor, lt_eq]
  (repeat' split) <;> (try dsimp only) <;> first | with_reducible exact Or.inl (rfl) | with_reducible exact Or.inr (rfl) | with_reducible exact tb_buy.elim (fun h => Or.inl (h)) (fun h => Or.inr (h)) | with_reducible exact tb_bar.elim (fun h => Or.inl (h)) (fun h => Or.inr (h)) | with_reducible exact tb_bat.elim (fun h => Or.inl (h)) (fun h => Or.inr (h)) | with_reducible exact tb_yat.elim (fun h => Or.inl (h)) (fun h => Or.inr (h)) | with_reducible exact Or.inl (tl_ms _ _ _) | with_reducible exact Or.inl (tl_bs _ _ _ _ _) | with_reducible exact Or.inl (tl_rs _ _ _)
theorem tc_bought {p0 : Int32} : (A_bought x p0 I).1 = 0 ∨ (A_bought x p0 I).1 = 3 := by
  simp only [A_bought, lt_eq]
  (repeat' split) <;> (try dsimp only) <;> first | with_reducible exact Or.inl (rfl) | with_reducible exact Or.inr (rfl) | with_reducible exact tb_buy.elim (fun h => Or.inl (h)) (fun h => Or.inr (h)) | with_reducible exact tb_bar.elim (fun h => Or.inl (h)) (fun h => Or.inr (h)) | with_reducible exact tb_bat.elim (fun h => Or.inl (h)) (fun h => Or.inr (h)) | with_reducible exact tb_yat.elim (fun h => Or.inl (h)) (fun h => Or.inr (h)) | with_reducible exact Or.inl (tl_ms _ _ _) | with_reducible exact Or.inl (tl_bs _ _ _ _ _) | with_reducible exact Or.inl (tl_rs _ _ _)
theorem tc_nods {p0 : Int32} : (A_nods x p0 I).1 = 0 ∨ (A_nods x p0 I).1 = 3 := by
  simp only [A_nods, lt_eq]
  (repeat' split) <;> (try dsimp only) <;> first | with_reducible exact Or.inl (rfl) | with_reducible exact Or.inr (rfl) | with_reducible exact tb_buy.elim (fun h => Or.inl (h)) (fun h => Or.inr (h)) | with_reducible exact tb_bar.elim (fun h => Or.inl (h)) (fun h => Or.inr (h)) | with_reducible exact tb_bat.elim (fun h => Or.inl (h)) (fun h => Or.inr (h)) | with_reducible exact tb_yat.elim (fun h => Or.inl (h)) (fun h => Or.inr (h)) | with_reducible exact Or.inl (tl_ms _ _ _) | with_reducible exact Or.inl (tl_bs _ _ _ _ _) | with_reducible exact Or.inl (tl_rs _ _ _)
theorem tc_worth {p0 : Int32} {p1 : Int32} : (A_worth x p0 p1 I).1 = 0 ∨ (A_worth x p0 p1 I).1 = 3 := by
  simp only [A_worth, lt_eq]
  (repeat' split) <;> (try dsimp only) <;> first | with_reducible exact Or.inl (rfl) | with_reducible exact Or.inr (rfl) | with_reducible exact tb_buy.elim (fun h => Or.inl (h)) (fun h => Or.inr (h)) | with_reducible exact tb_bar.elim (fun h => Or.inl (h)) (fun h => Or.inr (h)) | with_reducible exact tb_bat.elim (fun h => Or.inl (h)) (fun h => Or.inr (h)) | with_reducible exact tb_yat.elim (fun h => Or.inl (h)) (fun h => Or.inr (h)) | with_reducible exact Or.inl (tl_ms _ _ _) | with_reducible exact Or.inl (tl_bs _ _ _ _ _) | with_reducible exact Or.inl (tl_rs _ _ _)
theorem tc_whyNotNod {p0 : Int32} : (A_whyNotNod x p0 I).1 = 0 ∨ (A_whyNotNod x p0 I).1 = 3 := by
  simp only [A_whyNotNod, lt_eq]
  (repeat' split) <;> (try dsimp only) <;> first | with_reducible exact Or.inl (rfl) | with_reducible exact Or.inr (rfl) | with_reducible exact tb_buy.elim (fun h => Or.inl (h)) (fun h => Or.inr (h)) | with_reducible exact tb_bar.elim (fun h => Or.inl (h)) (fun h => Or.inr (h)) | with_reducible exact tb_bat.elim (fun h => Or.inl (h)) (fun h => Or.inr (h)) | with_reducible exact tb_yat.elim (fun h => Or.inl (h)) (fun h => Or.inr (h)) | with_reducible exact Or.inl (tl_ms _ _ _) | with_reducible exact Or.inl (tl_bs _ _ _ _ _) | with_reducible exact Or.inl (tl_rs _ _ _)
theorem tc_costOf {p0 : Int32} : (A_costOf x p0 I).1 = 0 ∨ (A_costOf x p0 I).1 = 1 := by
  simp only [A_costOf, lt_eq]
  (repeat' split) <;> (try dsimp only) <;> first | with_reducible exact Or.inl (rfl) | with_reducible exact Or.inr (rfl) | with_reducible exact tb_rng.elim (fun h => Or.inl (h)) (fun h => Or.inr (h)) | with_reducible exact Or.inl (tl_ms _ _ _) | with_reducible exact Or.inl (tl_bs _ _ _ _ _) | with_reducible exact Or.inl (tl_rs _ _ _)
theorem tc_keenestBuyer {p0 : Int32} : (A_keenestBuyer x p0 I).1 = 0 ∨ (A_keenestBuyer x p0 I).1 = 3 := by
  simp only [A_keenestBuyer, lt_eq]
  (repeat' split) <;> (try dsimp only) <;> first | with_reducible exact Or.inl (rfl) | with_reducible exact Or.inr (rfl) | with_reducible exact tb_buy.elim (fun h => Or.inl (h)) (fun h => Or.inr (h)) | with_reducible exact tb_bar.elim (fun h => Or.inl (h)) (fun h => Or.inr (h)) | with_reducible exact tb_bat.elim (fun h => Or.inl (h)) (fun h => Or.inr (h)) | with_reducible exact tb_yat.elim (fun h => Or.inl (h)) (fun h => Or.inr (h)) | with_reducible exact Or.inl (tl_ms _ _ _) | with_reducible exact Or.inl (tl_bs _ _ _ _ _) | with_reducible exact Or.inl (tl_rs _ _ _)
theorem tc_minutesToSale {p0 : Int32} : (A_minutesToSale x p0 I).1 = 0 ∨ (A_minutesToSale x p0 I).1 = 3 := by
  unfold A_minutesToSale
  split
  · split
    · exact Or.inl rfl
    · rw [lt_eq]
      exact Or.inl (tl_ms _ _ _)
  · exact tb_bat
theorem tc_buyerAfter {p0 : Int32} {p1 : Int32} : (A_buyerAfter x p0 p1 I).1 = 0 ∨ (A_buyerAfter x p0 p1 I).1 = 3 ∨ (A_buyerAfter x p0 p1 I).1 = 1 := by
  simp only [A_buyerAfter, lt_eq]
  (repeat' split) <;> (try dsimp only) <;> first | with_reducible exact Or.inl (rfl) | with_reducible exact Or.inr (Or.inl (rfl)) | with_reducible exact Or.inr (Or.inr (rfl)) | with_reducible exact tb_rng.elim (fun h => Or.inl (h)) (fun h => Or.inr (Or.inr (h))) | with_reducible exact tb_buy.elim (fun h => Or.inl (h)) (fun h => Or.inr (Or.inl (h))) | with_reducible exact tb_bar.elim (fun h => Or.inl (h)) (fun h => Or.inr (Or.inl (h))) | with_reducible exact tb_bat.elim (fun h => Or.inl (h)) (fun h => Or.inr (Or.inl (h))) | with_reducible exact tb_yat.elim (fun h => Or.inl (h)) (fun h => Or.inr (Or.inl (h))) | with_reducible exact Or.inl (tl_ms _ _ _) | with_reducible exact Or.inl (tl_bs _ _ _ _ _) | with_reducible exact Or.inl (tl_rs _ _ _)
theorem tc_sellerCoinsAfter {p0 : Int32} : (A_sellerCoinsAfter x p0 I).1 = 0 ∨ (A_sellerCoinsAfter x p0 I).1 = 1 := by
  simp only [A_sellerCoinsAfter, lt_eq]
  (repeat' split) <;> (try dsimp only) <;> first | with_reducible exact Or.inl (rfl) | with_reducible exact Or.inr (rfl) | with_reducible exact tb_rng.elim (fun h => Or.inl (h)) (fun h => Or.inr (h)) | with_reducible exact Or.inl (tl_ms _ _ _) | with_reducible exact Or.inl (tl_bs _ _ _ _ _) | with_reducible exact Or.inl (tl_rs _ _ _)
theorem tc_bestStep {p0 : Int32} : (A_bestStep x p0 I).1 = 0 ∨ (A_bestStep x p0 I).1 = 1 := by
  simp only [A_bestStep, lt_eq]
  (repeat' split) <;> (try dsimp only) <;> first | with_reducible exact Or.inl (rfl) | with_reducible exact Or.inr (rfl) | with_reducible exact tb_rng.elim (fun h => Or.inl (h)) (fun h => Or.inr (h)) | with_reducible exact Or.inl (tl_ms _ _ _) | with_reducible exact Or.inl (tl_bs _ _ _ _ _) | with_reducible exact Or.inl (tl_rs _ _ _)
end TCX
