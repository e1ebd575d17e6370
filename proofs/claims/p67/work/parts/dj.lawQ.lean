theorem lk_120_38 : ow_lv RX120 38 yJ4_append_15ec4 cJ4_append_15ec4 2 (some (.object "java/lang/StringBuilder")) 1 := ⟨ow_T_in 580 (by decide +kernel) (by decide +kernel), ow_T_in 581 (by decide +kernel) (by decide +kernel), ow_T_in 582 (by decide +kernel) (by decide +kernel), ow_T_in 13 (by decide +kernel) (by decide +kernel), ow_T_in 583 (by decide +kernel) (by decide +kernel), ⟨by decide +kernel, by decide +kernel, by decide +kernel⟩⟩
theorem lk_120_41 : ow_lv RX120 41 yJ4_append_bf812 cJ4_append_bf812 2 (some (.object "java/lang/StringBuilder")) 1 := ⟨ow_T_in 677 (by decide +kernel) (by decide +kernel), ow_T_in 678 (by decide +kernel) (by decide +kernel), ow_T_in 679 (by decide +kernel) (by decide +kernel), ow_T_in 13 (by decide +kernel) (by decide +kernel), ow_T_in 680 (by decide +kernel) (by decide +kernel), ⟨by decide +kernel, by decide +kernel, by decide +kernel⟩⟩
theorem lk_120_48 : ow_lv RX120 48 yJ4_toString_0e30d cJ4_toString_0e30d 1 (some (.object "java/lang/String")) 0 := ⟨ow_T_in 704 (by decide +kernel) (by decide +kernel), ow_T_in 705 (by decide +kernel) (by decide +kernel), ow_T_in 706 (by decide +kernel) (by decide +kernel), ow_T_in 13 (by decide +kernel) (by decide +kernel), ow_T_in 707 (by decide +kernel) (by decide +kernel), ⟨by decide +kernel, by decide +kernel, by decide +kernel⟩⟩
theorem lz_120_35 : ow_lz RX120 35 yJ4_init_da8c8 cJ4_init_da8c8 1 0 := ⟨ow_T_in 578 (by decide +kernel) (by decide +kernel), ow_T_in 330 (by decide +kernel) (by decide +kernel), ow_T_in 13 (by decide +kernel) (by decide +kernel), ow_T_in 331 (by decide +kernel) (by decide +kernel), rfl, ⟨by decide, by decide, by decide +kernel⟩⟩
/-! THE TEXT THAT THE LAW BUILDS -/
def gw (h0 h : ow_H) : Prop := h0.2.2.2 ≤ h.2.2.2 ∧ bl h0.1 h.1 h0.2.2.2 ∧ bl h0.2.1 h.2.1 h0.2.2.2 ∧ bl h0.2.2.1 h.2.2.1 h0.2.2.2
def lx (L : List Nat) (i : Nat) : Nat := L.getD i 0
def sq (Z : Nat → Nat) (h0 : ow_H) (o b : Nat) (L : List Nat) (a : Nat) (La : List Nat) (h : ow_H) : Prop := gw h0 h ∧ (sb_X o b L.length (lx L) h ∧ h0.2.2.2 ≤ o ∧ h0.2.2.2 ≤ b) ∧ rsb Z b a La.length (lx La) h
def dl (v : Nat) : List Nat := if v < 10 then [48 + v] else if v < 100 then [48 + v / 10, 48 + v % 10] else [48 + v / 100, 48 + v / 10 % 10, 48 + v % 10]
theorem dl_len {v : Nat} (h : v < 1000) : (dl v).length = sb_dg v ∧ (dl v).length ≤ 3 := by
  unfold dl sb_dg
  by_cases h1 : v < 10
  · rw [if_pos h1, if_pos h1]; exact ⟨rfl, Nat.le_of_ble_eq_true rfl⟩
  · rw [if_neg h1, if_neg h1]
    by_cases h2 : v < 100
    · rw [if_pos h2, if_pos h2]; exact ⟨rfl, Nat.le_of_ble_eq_true rfl⟩
    · rw [if_neg h2, if_neg h2, if_pos h]; exact ⟨rfl, Nat.le_of_ble_eq_true rfl⟩
theorem dl_dec {v : Nat} (h : v < 1000) : ∀ i, i < (dl v).length → sb_dec v i = lx (dl v) i := by
  intro i hi
  have hd : sb_dg v = (dl v).length := (dl_len h).1.symm
  unfold sb_dec
  rw [hd]
  revert hi
  unfold dl lx
  by_cases h1 : v < 10
  · rw [if_pos h1]
    intro hi
    have : i = 0 := by have : i < 1 := hi; omega
    subst this
    show 48 + v / 1 % 10 = 48 + v
    omega
  · rw [if_neg h1]
    by_cases h2 : v < 100
    · rw [if_pos h2]
      intro hi
      have hi2 : i < 2 := hi
      match i, hi2 with
      | 0, _ => show 48 + v / 10 % 10 = 48 + v / 10; omega
      | 1, _ => show 48 + v / 1 % 10 = 48 + v % 10; omega
    · rw [if_neg h2]
      intro hi
      have hi2 : i < 3 := hi
      match i, hi2 with
      | 0, _ => show 48 + v / 100 % 10 = 48 + v / 100; omega
      | 1, _ => show 48 + v / 10 % 10 = 48 + v / 10 % 10; rfl
      | 2, _ => show 48 + v / 1 % 10 = 48 + v % 10; omega
theorem dl_128 (v : Nat) (h : v < 1000) : ∀ c ∈ dl v, c < 128 := by
  unfold dl
  split
  · intro c hc; rw [List.mem_singleton.mp hc]; omega
  · split
    · intro c hc
      rcases List.mem_cons.mp hc with rfl | hc
      · omega
      · rw [List.mem_singleton.mp hc]; omega
    · intro c hc
      rcases List.mem_cons.mp hc with rfl | hc
      · omega
      · rcases List.mem_cons.mp hc with rfl | hc
        · omega
        · rw [List.mem_singleton.mp hc]; omega
theorem lx_app (L M : List Nat) (j : Nat) : sb_cat (lx L) L.length (lx M) j = lx (L ++ M) j := by
  unfold sb_cat lx
  by_cases h : j < L.length
  · rw [if_pos h]; simp [List.getD_eq_getElem?_getD, List.getElem?_append_left h]
  · rw [if_neg h]; simp [List.getD_eq_getElem?_getD, List.getElem?_append_right (Nat.le_of_not_lt h)]
theorem sb_cg {o b n : Nat} {t t' : Nat → Nat} {h : ow_H} (hX : sb_X o b n t h) (e : ∀ j, j < n → t j = t' j) : sb_X o b n t' h := by
  obtain ⟨h1, h2, h3, h4, m, h5, h6, h7, h8, h9⟩ := hX
  exact ⟨h1, h2, h3, h4, m, h5, h6, h7, fun j hj => by rw [← e j hj]; exact h8 j hj, h9⟩
theorem sq_K {Z : Nat → Nat} {h0 h h1 : ow_H} {o b b1 a : Nat} {L M La : List Nat} (hlt : ∀ (a : Nat) (sh : ow_Sh), h.1 a = some sh → a < h.2.2.2) (q : sq Z h0 o b L a La h) (k : sb_K o b b1 h h1) (hX : sb_X o b1 M.length (lx M) h1) : sq Z h0 o b1 M a La h1 := by
  obtain ⟨⟨g1, g2, g3, g4⟩, ⟨x1, x2, x3⟩, r⟩ := q
  have hr := rsb_K hlt x1 r k
  obtain ⟨k1, k2, k3, k4⟩ := k
  refine ⟨⟨Nat.le_trans g1 k1, fun c hc => (k3 c (by omega)).trans (g2 c hc), fun c hc => ((k4 c (by omega) (by omega) (by omega)).1).trans (g3 c hc), fun c hc => ((k4 c (by omega) (by omega) (by omega)).2).trans (g4 c hc)⟩, ⟨hX, x2, by omega⟩, hr⟩
theorem gl_lx (w : Nat) : gl_ch w = lx (gl_tx w) := rfl
theorem gl_ll (w : Nat) : gl_len w = (gl_tx w).length := rfl
section TXR
variable {X : ow_X} {cs sl : Nat} {pc : Nat} {lv : List (Nat × Value)} {cc : ByteArray} {nL kR mcR msR : Nat} {Z : Nat → Nat} {h0 h hf : ow_H} {o b a w v : Nat} {L La : List Nat} {K : Nat → Option Value → ow_H → Prop} {retR : Option FieldType} {nmR : String}
theorem or_b0 (E : ow_E X RX120 cc nL (ow_rm kR mcR msR)) (G : og_G X Z) (F : ox_F X hf K mcR msR retR nmR) (d1 : decode cc pc = .ok (.new 33, 3)) (d2 : decode cc (pc + 3) = .ok (.dup, 1)) (d3 : decode cc (pc + 4) = .ok (.invokespecial 35, 3)) (hg : gw h0 h) (hr : rs Z a La.length (lx La) h) (hk : 3 ≤ kR) (hc : cs + 2 ≤ mcR) (hs : sl + 20 ≤ msR)
    (kk : ∀ (h1 : ow_H) (o b : Nat), sq Z h0 o b [] a La h1 → ow_W X (cs + 2) (sl + 20) h1 (pc + 7) lv [.ref o]) : ow_W X cs sl h pc lv [] := by
  obtain ⟨S, I, V, z⟩ := h
  refine or_ltz (fun hlt => ?_)
  refine or_newO (f := fun k => if k = 0 then .null else .int 0) (ci := 12) (κ := sb_r) E (ow_T_in 577 (by decide +kernel) (by decide +kernel)) (ow_T_in 328 (by decide +kernel) (by decide +kernel)) (ow_T_in 13 (by decide +kernel) (by decide +kernel)) rfl ow_ok12 tyJ4_ok df_12 d1 (by omega) (by omega) ?_
  refine or_dup E rfl d2 ?_
  refine or_xI [] (cj4_init (Z := Z) (ow_nS_s _ _ _) (ow_nI_s _ _ _)) E G F lz_120_35 d3 rfl (by omega) (by decide) ⟨by omega, by omega⟩ (Nat.le_of_ble_eq_true rfl) (fun r h1 q => ?_) (fun c' h1 hc' q => absurd q.1 (Nat.pos_iff_ne_zero.mp hc'))
  obtain ⟨rfl, rfl⟩ := q.2.1 rfl
  obtain ⟨g1, g2, g3, g4⟩ := hg
  dsimp only at g1 g2 g3 g4
  have key : ∀ c, c < z → (ow_nS (ow_nS (ow_nS S z (.inl (12, sb_r))) (z + 1) (.inr (.byte, 16, ow_n))) z (.inl (12, sb_k))) c = S c := fun c hc => by
    rw [ow_nS_o _ _ (by omega), ow_nS_o _ _ (by omega), ow_nS_o _ _ (by omega)]
  have keyI : ∀ c, c < z → (ow_nI (ow_nI I z) (z + 1)) c = I c := fun c hc => by
    rw [ow_nI_o _ (by omega), ow_nI_o _ (by omega)]
  have keyV : ∀ c, c < z → (ow_u (ow_u (ow_nV V z (fun k => if k = 0 then .null else .int 0)) z 0 (.ref (z + 1))) z 1 (.int 0)) c = V c := fun c hc => by
    funext k
    rw [ow_u_a _ _ _ _ (by omega), ow_u_a _ _ _ _ (by omega), ow_nV_o _ _ (by omega)]
  refine kk _ z (z + 1) ⟨⟨?_, ?_, ?_, ?_⟩, ⟨⟨?_, ?_, ?_, ?_, 16, ?_, ?_, ?_, ?_, ?_⟩, g1, ?_⟩, ?_⟩
  · show h0.2.2.2 ≤ z + 1 + 1; omega
  · exact fun c hc => (key c (by omega)).trans (g2 c hc)
  · exact fun c hc => (keyI c (by omega)).trans (g3 c hc)
  · exact fun c hc => (keyV c (by omega)).trans (g4 c hc)
  · exact ow_nS_s _ _ _
  · show ow_u (ow_u _ z 0 (Value.ref (z + 1))) z 1 (Value.int 0) z 0 = _
    rw [ow_u_k _ _ _ _ (by decide), ow_u_s]
  · show ow_nI (ow_nI I z) (z + 1) z 1 = 0
    rw [ow_nI_o _ (by omega), ow_nI_s]
  · show ow_nI (ow_nI I z) (z + 1) z 3 = 0
    rw [ow_nI_o _ (by omega), ow_nI_s]
  · exact (ow_nS_o _ _ (by omega)).trans (ow_nS_s _ _ _)
  · exact Nat.zero_le _
  · decide
  · exact fun j hj => absurd hj (Nat.not_lt_zero _)
  · intro j
    show fits .byte (.int (ow_nI (ow_nI I z) (z + 1) (z + 1) j)) = true
    rw [ow_nI_s]
    rfl
  · show h0.2.2.2 ≤ z + 1; omega
  · rcases hr with r | ⟨r1, r2, r3, r4, r5⟩
    · exact Or.inl r
    · have l1 := hlt _ _ r1
      have l2 := hlt _ _ r3
      refine Or.inr ⟨⟨(key a l1).trans r1, ?_, (key (a + 1) l2).trans r3, r4, fun i hi => ⟨(r5 i hi).1, ?_⟩⟩, by omega⟩
      · show (ow_nI (ow_nI I z) (z + 1)) a 1 = _
        rw [keyI a l1]; exact r2
      · show (ow_nI (ow_nI I z) (z + 1)) (a + 1) i = _
        rw [keyI (a + 1) l2]; exact (r5 i hi).2
theorem or_bA {l : Nat} {u : Nat → Nat} {a9 : Nat} (E : ow_E X RX120 cc nL (ow_rm kR mcR msR)) (G : og_G X Z) (F : ox_F X hf K mcR msR retR nmR) (d : decode cc pc = .ok (.invokevirtual 38, 3)) (q : sq Z h0 o b L a La h) {M : List Nat} (hr : rsb Z b a9 M.length (lx M) h) (hL : L.length + M.length ≤ 300) (hk : 6 ≤ kR) (hc : cs + 1 ≤ mcR) (hs : sl + 602 ≤ msR)
    (kk : ∀ (h1 : ow_H) (b1 : Nat), sq Z h0 o b1 (L ++ M) a La h1 → ow_W X (cs + 1) (sl + 602) h1 (pc + 3) lv [.ref o]) : ow_W X cs sl h pc lv [.ref a9, .ref o] := by
  obtain ⟨S, I, V, z⟩ := h
  refine or_ltz (fun hlt => ?_)
  refine or_kV1 (cj4_appendS (Z := Z) q.2.1.1 hr hL) E G F lk_120_38 d q.2.1.1.1 rfl rfl (by omega) (by decide) ⟨by omega, by omega⟩ (Nat.le_of_ble_eq_true rfl) (fun r h1 p => ?_) (fun c' h1 hc' p => absurd p.1 (Nat.pos_iff_ne_zero.mp hc'))
  obtain ⟨-, rfl, b1, p1, p2⟩ := p
  refine kk h1 b1 (sq_K hlt q p2 ?_)
  rw [List.length_append]
  exact sb_cg p1 (fun j _ => lx_app L M j)
theorem or_bS (E : ow_E X RX120 cc nL (ow_rm kR mcR msR)) (G : og_G X Z) (F : ox_F X hf K mcR msR retR nmR) (d : decode cc pc = .ok (.invokevirtual 38, 3)) (q : sq Z h0 o b L a La h) (hw : w < 10) (hL : L.length + (gl_tx w).length ≤ 300) (hk : 6 ≤ kR) (hc : cs + 1 ≤ mcR) (hs : sl + 602 ≤ msR)
    (kk : ∀ (h1 : ow_H) (b1 : Nat), sq Z h0 o b1 (L ++ gl_tx w) a La h1 → ow_W X (cs + 1) (sl + 602) h1 (pc + 3) lv [.ref o]) : ow_W X cs sl h pc lv [.ref (Z w), .ref o] :=
  or_bA (l := 0) (u := fun _ => 0) E G F d q (Or.inl ⟨w, hw, rfl, rfl, rfl⟩) hL hk hc hs kk
theorem or_bC (E : ow_E X RX120 cc nL (ow_rm kR mcR msR)) (G : og_G X Z) (F : ox_F X hf K mcR msR retR nmR) (d : decode cc pc = .ok (.invokevirtual 38, 3)) (q : sq Z h0 o b L a La h) (hL : L.length + La.length ≤ 300) (hk : 6 ≤ kR) (hc : cs + 1 ≤ mcR) (hs : sl + 602 ≤ msR)
    (kk : ∀ (h1 : ow_H) (b1 : Nat), sq Z h0 o b1 (L ++ La) a La h1 → ow_W X (cs + 1) (sl + 602) h1 (pc + 3) lv [.ref o]) : ow_W X cs sl h pc lv [.ref a, .ref o] :=
  or_bA (l := 0) (u := fun _ => 0) E G F d q q.2.2 hL hk hc hs kk
theorem or_bI (E : ow_E X RX120 cc nL (ow_rm kR mcR msR)) (G : og_G X Z) (F : ox_F X hf K mcR msR retR nmR) (d : decode cc pc = .ok (.invokevirtual 41, 3)) (q : sq Z h0 o b L a La h) (hv : v < 1000) (hL : L.length + (dl v).length ≤ 300) (hk : 6 ≤ kR) (hc : cs + 1 ≤ mcR) (hs : sl + 602 ≤ msR)
    (kk : ∀ (h1 : ow_H) (b1 : Nat), sq Z h0 o b1 (L ++ dl v) a La h1 → ow_W X (cs + 1) (sl + 602) h1 (pc + 3) lv [.ref o]) : ow_W X cs sl h pc lv [.int (nI v), .ref o] := by
  obtain ⟨S, I, V, z⟩ := h
  refine or_ltz (fun hlt => ?_)
  have hdl := (dl_len hv).1
  refine or_kV1 (cj4_appendI (Z := Z) q.2.1.1 (by omega) (by rw [← hdl]; exact hL)) E G F lk_120_41 d q.2.1.1.1 rfl rfl (by omega) (by decide) ⟨by omega, by omega⟩ (Nat.le_of_ble_eq_true rfl) (fun r h1 p => ?_) (fun c' h1 hc' p => absurd p.1 (Nat.pos_iff_ne_zero.mp hc'))
  obtain ⟨-, rfl, b1, p1, p2⟩ := p
  refine kk h1 b1 (sq_K hlt q p2 ?_)
  rw [List.length_append]
  rw [← hdl] at p1
  refine sb_cg p1 (fun j hj => ?_)
  rw [← lx_app]
  unfold sb_cat
  by_cases e : j < L.length
  · rw [if_pos e, if_pos e]
  · rw [if_neg e, if_neg e]
    exact dl_dec hv _ (by omega)
theorem or_bT (E : ow_E X RX120 cc nL (ow_rm kR mcR msR)) (G : og_G X Z) (F : ox_F X hf K mcR msR retR nmR) (d : decode cc pc = .ok (.invokevirtual 48, 3)) (q : sq Z h0 o b L a La h) (hL : L.length ≤ 300) (h8 : ∀ c ∈ L, c < 128) (hk : 7 ≤ kR) (hc : cs + 2 ≤ mcR) (hs : sl + 304 ≤ msR)
    (kk : ∀ (h1 : ow_H) (a1 : Nat), gw h0 h1 → tf a1 L.length (lx L) h1 → h0.2.2.2 ≤ a1 → ow_W X (cs + 2) (sl + 304) h1 (pc + 3) lv [.ref a1]) : ow_W X cs sl h pc lv [.ref o] := by
  obtain ⟨S, I, V, z⟩ := h
  refine or_ltz (fun hlt => ?_)
  refine or_kV0 (cj4_toString (Z := Z) q.2.1.1 hL (fun i hi => ?_)) E G F lk_120_48 d q.2.1.1.1 rfl rfl (by omega) (by decide) ⟨by omega, by omega⟩ (Nat.le_of_ble_eq_true rfl) (fun r h1 p => ?_) (fun c' h1 hc' p => absurd p.1 (Nat.pos_iff_ne_zero.mp hc'))
  · unfold lx
    rw [List.getD_eq_getElem?_getD, List.getElem?_eq_getElem hi]
    exact h8 _ (List.getElem_mem hi)
  · obtain ⟨-, rfl, S1, I1, V1, rfl, p1, p2, p3, p4⟩ := p
    obtain ⟨⟨g1, g2, g3, g4⟩, -, -⟩ := q
    dsimp only at g1 g2 g3 g4
    exact kk _ z ⟨by show h0.2.2.2 ≤ z + 2; omega, fun c hc => (p2 c (by omega)).trans (g2 c hc), fun c hc => (p3 c (by omega)).trans (g3 c hc), fun c hc => (p4 c (by omega)).trans (g4 c hc)⟩ p1 g1
end TXR
theorem au_bl {S S1 : Nat → Option ow_Sh} {x n : Nat} (p : bl S S1 n) (h : au_S S x) (hn : x + 666 ≤ n) : au_S S1 x := by
  obtain ⟨h1, h2, h3, h4, h5, h6, h7, h8, h9⟩ := h
  exact ⟨(p _ (by omega)).trans h1, mkS_bl p h2 (by omega), mkS_bl p h3 (by omega), hsS_bx (x := x) p.bx h4 (by omega) (by omega), (p _ (by omega)).trans h5, (p _ (by omega)).trans h6, psS_bx (x := x) p.bx h7 (by omega) (by omega), (p _ (by omega)).trans h8, fun i hi => mkS_bl p (h9 i hi) (by omega)⟩
theorem auV_eq {x : Nat} {I J : ow_I} (hX : au_V x I) (e : ∀ a, a < x + 666 → J a = I a) : au_V x J := by
  obtain ⟨h1, h2, h3, h4, h5, h6⟩ := hX
  refine ⟨kV_eq h1 (fun a g1 g2 => e a (by omega)), kV_eq h2 (fun a g1 g2 => e a (by omega)), fun i hi => kV_eq (h3 i hi) (fun a g1 g2 => e a (by omega)), fun i hi => kV_eq (h4 i hi) (fun a g1 g2 => e a (by omega)), ?_, ?_⟩
  · rw [e (x + 103) (by omega)]; exact h5
  · rw [e (x + 515 + 1) (by omega)]; exact h6
