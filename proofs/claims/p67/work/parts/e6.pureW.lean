/-! THE TEXT IS READ, SIGN BY SIGN -/
/-- the token's cells -/
def tkS (I : ow_I) (u : Nat) (k s e v : Int32) : ow_I := fun b j => if b = u then (if j = 2 then k else if j = 3 then s else if j = 4 then e else if j = 5 then v else I b j) else I b j
/-- from a on the text is R -/
def sfx (u : Nat) (I : ow_I) (a : Nat) (R : List Nat) : Prop := I u 1 = nI (a + R.length) ∧ a + R.length ≤ 500 ∧ ∀ i, i < R.length → I (u + 1) (a + i) = nI (lx R i)
def kdc (c : Nat) : Int32 := if nI c < nI 97 then if nI c < nI 48 then if nI c = nI 59 then nI 3 else nI 4 else if nI 57 < nI c then if nI c = nI 59 then nI 3 else nI 4 else nI 2 else if nI 122 < nI c then if nI c < nI 48 then if nI c = nI 59 then nI 3 else nI 4 else if nI 57 < nI c then if nI c = nI 59 then nI 3 else nI 4 else nI 2 else nI 1
theorem kdc_w {c : Nat} (h : 97 ≤ c ∧ c ≤ 122) : kdc c = nI 1 := (by decide +kernel : ∀ c, c < 123 → 97 ≤ c → kdc c = nI 1) c (by omega) h.1
theorem kdc_d {c : Nat} (h : 48 ≤ c ∧ c ≤ 57) : kdc c = nI 2 := (by decide +kernel : ∀ c, c < 58 → 48 ≤ c → kdc c = nI 2) c (by omega) h.1
theorem kdc_s : kdc 59 = nI 3 := by decide +kernel
theorem kdc_o : kdc 32 = nI 4 := by decide +kernel
def dvl (v : Nat) : List Nat → Nat
  | [] => v
  | d :: D => dvl (v * 10 + (d - 48)) D
section LEX
variable {u a : Nat} {I : ow_I} {R : List Nat} {k s e v x : Int32}
theorem tk_1 : tkS I u k s e v u 1 = I u 1 := by simp [tkS]
theorem tk_2 : tkS I u k s e v u 2 = k := by simp [tkS]
theorem tk_3 : tkS I u k s e v u 3 = s := by simp [tkS]
theorem tk_4 : tkS I u k s e v u 4 = e := by simp [tkS]
theorem tk_5 : tkS I u k s e v u 5 = v := by simp [tkS]
theorem tk_r {b : Nat} (h : b ≠ u) : tkS I u k s e v b = I b := by funext j; simp [tkS, h]
theorem tk_u2 : ow_u (tkS I u k s e v) u 2 x = tkS I u x s e v := by
  funext b j; simp only [ow_u, tkS]; (repeat' split) <;> first | rfl | omega
theorem tk_u3 : ow_u (tkS I u k s e v) u 3 x = tkS I u k x e v := by
  funext b j; simp only [ow_u, tkS]; (repeat' split) <;> first | rfl | omega
theorem tk_u4 : ow_u (tkS I u k s e v) u 4 x = tkS I u k s x v := by
  funext b j; simp only [ow_u, tkS]; (repeat' split) <;> first | rfl | omega
theorem tk_u5 : ow_u (tkS I u k s e v) u 5 x = tkS I u k s e x := by
  funext b j; simp only [ow_u, tkS]; (repeat' split) <;> first | rfl | omega
theorem tk_id : tkS I u (I u 2) (I u 3) (I u 4) (I u 5) = I := by
  funext b j
  simp only [tkS]
  by_cases hb : b = u
  · subst hb
    rw [if_pos rfl]
    (repeat' split) <;> first | rfl | (rename_i h; rw [h])
  · rw [if_neg hb]
theorem sfx_row {J : ow_I} (h : sfx u I a R) (e1 : J u 1 = I u 1) (e2 : J (u + 1) = I (u + 1)) : sfx u J a R := ⟨e1.trans h.1, h.2.1, fun i hi => by rw [e2]; exact h.2.2 i hi⟩
theorem sfx_tk (h : sfx u I a R) : sfx u (tkS I u k s e v) a R := sfx_row h tk_1 (tk_r (by omega))
theorem sfx_c {c : Nat} (h : sfx u I a (c :: R)) : I (u + 1) a = nI c ∧ sfx u I (a + 1) R ∧ a < 500 ∧ nI a < I u 1 ∧ tn (I u 1) = a + 1 + R.length := by
  obtain ⟨h1, h2, h3⟩ := h
  rw [List.length_cons] at h1 h2 h3
  refine ⟨h3 0 (by omega), ⟨by rw [h1]; congr 1; omega, by omega, fun i hi => ?_⟩, by omega, ?_, ?_⟩
  · have := h3 (i + 1) (by omega)
    rw [show a + (i + 1) = a + 1 + i by omega] at this
    exact this
  · rw [h1]; exact (nI_lt' (by omega) (by omega)).mpr (by omega)
  · rw [h1, tn_nI (by omega)]; omega
theorem sfx_a {M : List Nat} (h : sfx u I a (M ++ R)) : sfx u I (a + M.length) R := by
  induction M generalizing a with
  | nil => exact h
  | cons c M ih =>
    have := ih (sfx_c (R := M ++ R) h).2.1
    rw [List.length_cons, show a + (M.length + 1) = a + 1 + M.length by omega]
    exact this
theorem ka_c {c : Nat} (h : sfx u I a (c :: R)) : U_kindAt u (nI a) I = kdc c := by
  obtain ⟨h1, h2, h3, h4, h5⟩ := sfx_c h
  unfold U_kindAt kdc
  rw [tn_nI (by omega), h1, if_neg (Int32.not_lt.mpr (nI_ge0 (by omega))), if_pos h4]
theorem l93_w {W : List Nat} {c : Nat} (hc : kdc c ≠ nI 1) : ∀ (n a : Nat), W.length < n → (∀ d ∈ W, 97 ≤ d ∧ d ≤ 122) → sfx u I a (W ++ c :: R) → U_advance_L93 u n (tkS I u (nI 1) s (nI a) v) 1 = tkS I u (nI 1) s (nI (a + W.length)) v := by
  induction W with
  | nil =>
    intro n a h1 h2 h3
    obtain ⟨n, rfl⟩ : ∃ m, n = m + 1 := ⟨n - 1, by simp only [List.length_nil] at h1; omega⟩
    have hk : U_kindAt u (nI a) (tkS I u (nI 1) s (nI a) v) = kdc c := ka_c (R := R) (sfx_tk h3)
    obtain ⟨g1, g2, g3, g4, g5⟩ := sfx_c (c := c) (R := R) h3
    simp only [U_advance_L93, lt_eq]
    rw [tk_4, tk_1, tk_2, hk, if_neg (by rw [g5, tn_nI (by omega)]; omega), if_neg hc]
    rfl
  | cons d W ih =>
    intro n a h1 h2 h3
    obtain ⟨n, rfl⟩ : ∃ m, n = m + 1 := ⟨n - 1, by rw [List.length_cons] at h1; omega⟩
    rw [List.length_cons] at h1
    have hk : U_kindAt u (nI a) (tkS I u (nI 1) s (nI a) v) = nI 1 := (ka_c (R := W ++ c :: R) (sfx_tk h3)).trans (kdc_w (h2 d List.mem_cons_self))
    obtain ⟨g1, g2, g3, g4, g5⟩ := sfx_c (c := d) (R := W ++ c :: R) h3
    simp only [U_advance_L93, lt_eq]
    rw [tk_4, tk_1, tk_2, hk, if_neg (by rw [g5, tn_nI (by omega)]; omega), if_pos rfl, if_neg (show ¬ 1 = 0 by decide), if_neg (show ¬ nI 1 = nI 2 by decide), nI_add, tk_u4, ih n (a + 1) (by omega) (fun d hd => h2 d (List.mem_cons_of_mem _ hd)) g2, List.length_cons, show a + 1 + W.length = a + (W.length + 1) by omega]
theorem i_min_b {x : Nat} (h : x ≤ 1000000) : i_min (nI x) (nI 1000000) = nI x := by
  unfold i_min
  rw [if_neg (fun z => by have := (nI_lt' (by decide) (by omega)).mp z; omega)]
theorem l93_d {D : List Nat} {c : Nat} (hc : kdc c ≠ nI 2) : ∀ (n a v : Nat), D.length < n → (∀ d ∈ D, 48 ≤ d ∧ d ≤ 57) → (v + 1) * 10 ^ D.length ≤ 1000000 → sfx u I a (D ++ c :: R) → U_advance_L93 u n (tkS I u (nI 2) s (nI a) (nI v)) 1 = tkS I u (nI 2) s (nI (a + D.length)) (nI (dvl v D)) := by
  induction D with
  | nil =>
    intro n a v h1 h2 hv h3
    obtain ⟨n, rfl⟩ : ∃ m, n = m + 1 := ⟨n - 1, by simp only [List.length_nil] at h1; omega⟩
    have hk : U_kindAt u (nI a) (tkS I u (nI 2) s (nI a) (nI v)) = kdc c := ka_c (R := R) (sfx_tk h3)
    obtain ⟨g1, g2, g3, g4, g5⟩ := sfx_c (c := c) (R := R) h3
    simp only [U_advance_L93, lt_eq]
    rw [tk_4, tk_1, tk_2, hk, if_neg (by rw [g5, tn_nI (by omega)]; omega), if_neg hc]
    rfl
  | cons d D ih =>
    intro n a v h1 h2 hv h3
    obtain ⟨n, rfl⟩ : ∃ m, n = m + 1 := ⟨n - 1, by rw [List.length_cons] at h1; omega⟩
    rw [List.length_cons] at h1 hv
    have hd := h2 d List.mem_cons_self
    have hk : U_kindAt u (nI a) (tkS I u (nI 2) s (nI a) (nI v)) = nI 2 := (ka_c (R := D ++ c :: R) (sfx_tk h3)).trans (kdc_d hd)
    obtain ⟨g1, g2, g3, g4, g5⟩ := sfx_c (c := d) (R := D ++ c :: R) h3
    have hp : 1 ≤ 10 ^ D.length := Nat.le_trans Nat.one_le_two_pow (Nat.pow_le_pow_left (by decide) D.length)
    have hv2 : (v * 10 + (d - 48) + 1) * 10 ^ D.length ≤ 1000000 := by
      refine Nat.le_trans ?_ hv
      rw [Nat.pow_succ, Nat.mul_comm (10 ^ D.length) 10, ← Nat.mul_assoc]
      exact Nat.mul_le_mul_right _ (by omega)
    have hle : v * 10 + (d - 48) + 1 ≤ 1000000 := Nat.le_trans (Nat.le_mul_of_pos_right _ hp) hv2
    simp only [U_advance_L93, lt_eq]
    rw [tk_4, tk_1, tk_2, hk, if_neg (by rw [g5, tn_nI (by omega)]; omega), if_pos rfl, if_neg (show ¬ 1 = 0 by decide), if_pos rfl, tk_5, tk_r (by omega), tn_nI (by omega), g1, nI_ml, nI_sb hd.1, nI_add, i_min_b (by omega), tk_u5, tk_4, nI_add, tk_u4, ih n (a + 1) _ (by omega) (fun d hd => h2 d (List.mem_cons_of_mem _ hd)) hv2 g2, List.length_cons, show a + 1 + D.length = a + (D.length + 1) by omega]
    rfl
theorem l8_sp {n : Nat} (h : sfx u I a (32 :: R)) : U_advance_L8 u (n + 1) (tkS I u k (nI a) e v) = U_advance_L8 u n (tkS I u k (nI (a + 1)) e v) := by
  obtain ⟨g1, g2, g3, g4, g5⟩ := sfx_c h
  simp only [U_advance_L8, lt_eq]
  rw [tk_3, tk_1, if_neg (by rw [g5, tn_nI (by omega)]; omega), tk_r (show u + 1 ≠ u by omega), tn_nI (by omega), g1, if_pos rfl, nI_add, tk_u3]
theorem l8_t {n N c : Nat} (hN : N = 501) (h : sfx u I a (c :: R)) (hc : c < 128) (h32 : c ≠ 32) : U_advance_L8 u (n + 1) (tkS I u k (nI a) e v) = if kdc c = nI 1 then U_advance_L93 u N (tkS I u (kdc c) (nI a) (nI a) (nI 0)) 1 else if kdc c = nI 2 then U_advance_L93 u N (tkS I u (kdc c) (nI a) (nI a) (nI 0)) 1 else U_advance_L93 u N (tkS I u (kdc c) (nI a) (nI a) (nI 0)) 0 := by
  obtain ⟨g1, g2, g3, g4, g5⟩ := sfx_c h
  simp only [U_advance_L8, lt_eq]
  rw [← hN, tk_3, tk_1, if_neg (by rw [g5, tn_nI (by omega)]; omega), tk_r (show u + 1 ≠ u by omega), tn_nI (by omega), g1, if_neg (fun z => h32 ((nI_eq (by omega) (by decide)).mp z)), tk_u4, tk_3, ka_c (sfx_tk h), tk_u2, tk_u5, tk_2]
theorem l8_e {n N : Nat} (hN : N = 501) (h : sfx u I a []) : U_advance_L8 u (n + 1) (tkS I u k (nI a) e v) = tkS I u (nI 0) (nI a) (nI a) (nI 0) := by
  obtain ⟨h1, h2, -⟩ := h
  rw [List.length_nil, Nat.add_zero] at h1 h2
  have hle : tn (I u 1) ≤ tn (nI a) := by rw [h1]; exact Nat.le_refl _
  have hk : ∀ k s e v : Int32, U_kindAt u (nI a) (tkS I u k s e v) = nI 0 := fun k s e v => by
    unfold U_kindAt
    rw [if_neg (Int32.not_lt.mpr (nI_ge0 (by omega))), tk_1, h1, if_neg (fun z => Int32.lt_irrefl z)]
  obtain ⟨M, hM⟩ : ∃ M, N = M + 1 := ⟨500, hN⟩
  simp only [U_advance_L8, lt_eq]
  rw [← hN, hM, tk_3, tk_1, if_pos hle, tk_u4, tk_3, hk, tk_u2, tk_u5, tk_2, if_neg (by decide), if_neg (by decide)]
  simp only [U_advance_L93]
  rw [tk_4, tk_1, if_pos hle]
theorem adv_0 {N : Nat} (hN : N = 501) (h : I u 4 = nI a) : U_advance u I = U_advance_L8 u N (tkS I u (I u 2) (nI a) (nI a) (I u 5)) := by
  unfold U_advance
  rw [lt_eq, ← hN]
  congr 1
  rw [h]
  conv => lhs; rw [← @tk_id u I]
  rw [tk_u3, h]
/-- a word -/
theorem adv_w {W : List Nat} {c d : Nat} (h : I u 4 = nI a) (hs : sfx u I a (d :: W ++ c :: R)) (hW : ∀ d' ∈ d :: W, 97 ≤ d' ∧ d' ≤ 122) (hc : kdc c ≠ nI 1) (hl : W.length < 400) : U_advance u I = tkS I u (nI 1) (nI a) (nI (a + (W.length + 1))) (nI 0) := by
  have hd := hW d List.mem_cons_self
  obtain ⟨N, hN⟩ : ∃ N, N = 501 := ⟨_, rfl⟩
  obtain ⟨M, hM⟩ : ∃ M, N = M + 1 := ⟨500, hN⟩
  rw [adv_0 hN h, hM, l8_t (N := N) (R := W ++ c :: R) hN hs (by omega) (by omega), kdc_w hd, if_pos rfl, l93_w (W := d :: W) hc N a (by rw [List.length_cons]; omega) hW hs, List.length_cons]
/-- a number behind a space -/
theorem adv_d {D : List Nat} {c d : Nat} (h : I u 4 = nI a) (hs : sfx u I a (32 :: (d :: D ++ c :: R))) (hD : ∀ d' ∈ d :: D, 48 ≤ d' ∧ d' ≤ 57) (hc : kdc c ≠ nI 2) (hl : D.length ≤ 2) : U_advance u I = tkS I u (nI 2) (nI (a + 1)) (nI (a + 1 + (D.length + 1))) (nI (dvl 0 (d :: D))) := by
  have hd := hD d List.mem_cons_self
  obtain ⟨N, hN⟩ : ∃ N, N = 501 := ⟨_, rfl⟩
  obtain ⟨M, hM⟩ : ∃ M, N = M + 1 + 1 := ⟨499, hN⟩
  have hs2 := (sfx_c hs).2.1
  rw [adv_0 hN h, hM, l8_sp hs, l8_t (N := N) (R := D ++ c :: R) hN hs2 (by omega) (by omega), kdc_d hd, if_neg (by decide), if_pos rfl, l93_d (D := d :: D) hc N (a + 1) 0 (by rw [List.length_cons]; omega) hD ?_ hs2, List.length_cons]
  rw [List.length_cons, Nat.zero_add, Nat.one_mul]
  exact Nat.le_trans (Nat.pow_le_pow_right (by decide) (show D.length + 1 ≤ 3 by omega)) (by decide)
theorem l93_s1 {n : Nat} (hs : sfx u I a (59 :: R)) : U_advance_L93 u (n + 1) (tkS I u (nI 3) (nI a) (nI a) (nI 0)) 0 = U_advance_L93 u n (tkS I u (nI 3) (nI a) (nI (a + 1)) (nI 0)) 0 := by
  obtain ⟨g1, g2, g3, g4, g5⟩ := sfx_c hs
  have k1 : U_kindAt u (nI a) (tkS I u (nI 3) (nI a) (nI a) (nI 0)) = nI 3 := (ka_c (sfx_tk hs)).trans kdc_s
  simp only [U_advance_L93, lt_eq]
  rw [tk_4, tk_1, tk_2, tk_3, k1, if_neg (by rw [g5, tn_nI (by omega)]; omega), if_pos rfl]
  simp only [if_true]
  rw [if_neg (show ¬ nI 3 = nI 2 by decide), nI_add, tk_u4]
theorem l93_s2 {n b : Nat} (hb : b ≠ a) (h1 : a < 1000) (h2 : b < 1000) : U_advance_L93 u (n + 1) (tkS I u (nI 3) (nI a) (nI b) v) 0 = tkS I u (nI 3) (nI a) (nI b) v := by
  simp only [U_advance_L93, lt_eq]
  rw [tk_4, tk_1, tk_2, tk_3, if_neg (show ¬ nI b = nI a from fun z => hb ((nI_eq (by omega) (by omega)).mp z))]
  simp only [if_true]
  split
  · rfl
  · split <;> rfl
/-- the semicolon -/
theorem adv_s (h : I u 4 = nI a) (hs : sfx u I a (59 :: R)) : U_advance u I = tkS I u (nI 3) (nI a) (nI (a + 1)) (nI 0) := by
  obtain ⟨N, hN⟩ : ∃ N, N = 501 := ⟨_, rfl⟩
  obtain ⟨M, hM⟩ : ∃ M, N = M + 1 + 1 := ⟨499, hN⟩
  obtain ⟨g1, g2, g3, g4, g5⟩ := sfx_c hs
  rw [adv_0 hN h, hM, l8_t (N := N) hN hs (by decide) (by decide), kdc_s, if_neg (by decide), if_neg (by decide), hM, l93_s1 hs, l93_s2 (by omega) (by omega) (by omega)]
/-- the end -/
theorem adv_e (h : I u 4 = nI a) (hs : sfx u I a []) : U_advance u I = tkS I u (nI 0) (nI a) (nI a) (nI 0) := by
  obtain ⟨N, hN⟩ : ∃ N, N = 501 := ⟨_, rfl⟩
  obtain ⟨M, hM⟩ : ∃ M, N = M + 1 := ⟨500, hN⟩
  rw [adv_0 hN h, hM, l8_e hN hs]
end LEX
theorem dl_v {v : Nat} (h : v < 1000) : (∃ d D, dl v = d :: D ∧ D.length ≤ 2) ∧ (∀ d ∈ dl v, 48 ≤ d ∧ d ≤ 57) ∧ dvl 0 (dl v) = v := by
  unfold dl
  by_cases h1 : v < 10
  · rw [if_pos h1]
    refine ⟨⟨_, _, rfl, Nat.le_of_ble_eq_true rfl⟩, fun d hd => ?_, ?_⟩
    · rw [List.mem_singleton.mp hd]; omega
    · show 0 * 10 + (48 + v - 48) = v; omega
  · rw [if_neg h1]
    by_cases h2 : v < 100
    · rw [if_pos h2]
      refine ⟨⟨_, _, rfl, Nat.le_of_ble_eq_true rfl⟩, fun d hd => ?_, ?_⟩
      · rcases List.mem_cons.mp hd with rfl | hd
        · omega
        · rw [List.mem_singleton.mp hd]; omega
      · show (0 * 10 + (48 + v / 10 - 48)) * 10 + (48 + v % 10 - 48) = v; omega
    · rw [if_neg h2]
      refine ⟨⟨_, _, rfl, Nat.le_of_ble_eq_true rfl⟩, fun d hd => ?_, ?_⟩
      · rcases List.mem_cons.mp hd with rfl | hd
        · omega
        · rcases List.mem_cons.mp hd with rfl | hd
          · omega
          · rw [List.mem_singleton.mp hd]; omega
      · show ((0 * 10 + (48 + v / 100 - 48)) * 10 + (48 + v / 10 % 10 - 48)) * 10 + (48 + v % 10 - 48) = v; omega
