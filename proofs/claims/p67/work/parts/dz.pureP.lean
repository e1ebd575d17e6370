/-! A BARREL MORE -/
section ADB
variable {m x q B : Nat} {I J : ow_I} {f g : Nat → Int32}
theorem ce_new {r : Int32} (h12 : tn (J (m + 1) 12) < 20) (h7 : tn (J (m + 1) 7) < 20) (j : Nat) : (M_newBarrel m r J).2 (m + 1) j = if j = 12 then J (m + 1) 12 + nI 1 else if j = 16 + tn (J (m + 1) 12) then nI (tn (J (m + 1) 7)) else if j = 66 + 15 * tn (J (m + 1) 7) + 12 then nI 0 else if j = 7 then J (m + 1) 7 + nI 1 else if j = 66 + 15 * tn (J (m + 1) 7) + 14 then -1 else if j = 66 + 15 * tn (J (m + 1) 7) + 13 then -1 else if j = 66 + 15 * tn (J (m + 1) 7) + 11 then nI 0 else if j = 66 + 15 * tn (J (m + 1) 7) + 10 then r else if j = 66 + 15 * tn (J (m + 1) 7) + 0 then nI 0 else J (m + 1) j := by
  simp only [M_newBarrel, M_enqueue, M_putBarrel, lt_eq]
  generalize tn (J (m + 1) 7) = k at h7 ⊢
  simp (disch := omega) only [u_one, if_neg, if_pos, if_true]
theorem li_fin {B' : Nat} (hX : au_V x J) (e : J q = I q) (hr : rl (x + 1) J g) (hv : md_V g) (hi : iv B' g) (hl : lgf (1000 + 40 * B') g) (hq : g 0 = f 0 ∧ g 1 = f 1 ∧ g 2 = f 2 ∧ g 4 = f 4) (hf : I q 0 = f 0 ∧ I q 1 = f 1 ∧ I q 2 = f 2 ∧ I q 3 = f 4) (h1 : x + 666 ≤ q) (h2 : B' ≤ 100000) (ho : 0 ≤ g 8 → M_isOpenNow 0 (fun _ => g) = true) : LI B' x q J :=
  li_of hX hr hv hi hl ⟨by rw [e, hf.1, hq.1], by rw [e, hf.2.1, hq.2.1], by rw [e, hf.2.2.1, hq.2.2.1], by rw [e, hf.2.2.2, hq.2.2.2]⟩ h1 h2 ho
/-- a barrel more in the ledger -/
theorem lk_new {P : Nat} {k : Nat} (hv : md_V f) (h : lgf P f) (hk : k = tn (f 7)) (hk20 : k < 20) (s0 : ∀ j, j < 7 ∨ (12 < j ∧ j < 16) ∨ (36 ≤ j ∧ j < 66) → g j = f j) (s7 : g 7 = nI (k + 1)) (bn : ∀ i, i < 20 → i ≠ k → ∀ w, 11 ≤ w → w < 15 → g (66 + 15 * i + w) = f (66 + 15 * i + w)) (b11 : g (66 + 15 * k + 11) = nI 0) (b12 : g (66 + 15 * k + 12) = nI 0) (b13 : g (66 + 15 * k + 13) = -1) (b14 : g (66 + 15 * k + 14) = -1) : lgf P g := by
  have h6 := hv.2.1.2.2
  obtain ⟨q1, q2, q3, q4, q5, q6, q7⟩ := h
  have t7 : tn (g 7) = k + 1 := by rw [s7, tn_nI (by omega)]
  unfold lgf
  rw [s0 6 (by omega), t7, s0 13 (by omega), s0 14 (by omega), s0 15 (by omega)]
  rw [← hk] at q1 q2 q3 q4 q6
  refine ⟨fun b hb hs => ?_, fun b hb hs => ?_, fun y hy => ?_, ?_, ?_, fun b hb hs => ?_, fun y hy => ?_⟩
  · by_cases e : b = k
    · subst e; rw [b12] at hs; exact absurd hs (by decide)
    · rw [bn b (by omega) e 12 (by decide) (by decide)] at hs
      rw [bn b (by omega) e 13 (by decide) (by decide)]
      exact q1 b (by omega) hs
  · by_cases e : b = k
    · subst e; exact ⟨b13, b14⟩
    · rw [bn b (by omega) e 12 (by decide) (by decide)] at hs
      rw [bn b (by omega) e 13 (by decide) (by decide), bn b (by omega) e 14 (by decide) (by decide)]
      exact q2 b (by omega) hs
  · rw [s0 _ (by omega), q3 y hy]
    show _ = nI (if g (66 + 15 * k + 12) = nI 2 ∧ _ then _ else _)
    rw [if_neg (fun z => absurd (b12.symm.trans z.1) (by decide)), zB_c k (fun i hi => ⟨bn i (by omega) (by omega) 12 (by decide) (by decide), bn i (by omega) (by omega) 13 (by decide) (by decide)⟩)]
  · show f 13 = if g (66 + 15 * k + 12) = nI 2 then _ else _
    rw [if_neg (fun z => absurd (b12.symm.trans z) (by decide)), q4, zP_c k (fun i hi => ⟨bn i (by omega) (by omega) 12 (by decide) (by decide), bn i (by omega) (by omega) 14 (by decide) (by decide)⟩)]
  · rw [zS_c _ (fun i hi => s0 _ (by omega))]; exact q5
  · by_cases e : b = k
    · subst e; exact ⟨0, b11, by decide⟩
    · rw [bn b (by omega) e 12 (by decide) (by decide)] at hs
      rw [bn b (by omega) e 11 (by decide) (by decide)]
      exact q6 b (by omega) hs
  · rw [s0 _ (by omega)]; exact q7 y hy
theorem fl_L {a b : Nat} {v : Int32} : ∀ (n i : Nat) (I : ow_I), (b ≠ a → j7_fill_53178_L5 a v n I i b = I b) ∧ (∀ j, j < i → j7_fill_53178_L5 a v n I i a j = I a j) ∧ (9 < n + i → ∀ j, i ≤ j → j < 9 → j7_fill_53178_L5 a v n I i a j = v) := by
  intro n
  induction n with
  | zero => intro i I; exact ⟨fun _ => rfl, fun _ _ => rfl, fun h j h1 h2 => by omega⟩
  | succ n ih =>
    intro i I
    simp only [j7_fill_53178_L5, lt]
    by_cases e : 9 ≤ i
    · rw [if_pos e]; exact ⟨fun _ => rfl, fun _ _ => rfl, fun h j h1 h2 => by omega⟩
    · rw [if_neg e]
      obtain ⟨h1, h2, h3⟩ := ih (i + 1) (ow_u I a i v)
      refine ⟨fun hb => ?_, fun j hj => ?_, fun hn j hj hj9 => ?_⟩
      · rw [h1 hb]; funext k; exact ow_u_a _ _ _ _ hb k
      · rw [h2 j (by omega), ow_u_k _ _ _ _ (by omega)]
      · by_cases d : j = i
        · subst d; rw [h2 j (by omega), ow_u_s]
        · exact h3 (by omega) j (by omega) hj9
theorem sum_k (v : Nat) : ∀ n, sumL (fun _ => nI v) n = nI (n * v) := by
  intro n
  induction n with
  | zero => rw [Nat.zero_mul]; rfl
  | succ n ih =>
    show sumL (fun _ => nI v) n + nI v = _
    rw [ih, nI_add, Nat.succ_mul]
theorem act_add (h : LI B x q I) (hB : B ≤ 50000) {r e l : Nat} (hr1 : 1 ≤ r ∧ r ≤ 90) (he : 1 ≤ e ∧ e ≤ 9) (hl1 : 10 ≤ l ∧ l ≤ 150) (hc : ¬ tn (A_barrelCount x I) = 20) : K_hasRoom (x + 1) I = true ∧ LI B x q (A_addBarrel x (nI r) (nI e) (nI l) I).2 ∧ (A_addBarrel x (nI r) (nI e) (nI l) I).1 = nI (tn (A_barrelCount x I)) ∧ tn ((A_addBarrel x (nI r) (nI e) (nI l) I).2 (x + 1) 10) = tn (A_barrelCount x I) + 1 ∧
    A_eels x (nI (tn (A_barrelCount x I))) (A_addBarrel x (nI r) (nI e) (nI l) I).2 = nI e ∧ A_totalLength x (nI (tn (A_barrelCount x I))) (A_addBarrel x (nI r) (nI e) (nI l) I).2 = nI (e * l) ∧ A_middleLength x (nI (tn (A_barrelCount x I))) (A_addBarrel x (nI r) (nI e) (nI l) I).2 = nI l ∧ A_stateOf x (nI (tn (A_barrelCount x I))) (A_addBarrel x (nI r) (nI e) (nI l) I).2 = 0 := by
  obtain ⟨f, hr, hv, hi, hl, hq, hop⟩ := li_to h
  have hX := h.1
  have hX2 := au_rem hX
  have h6 := hv.2.1.2.2
  have h7 := hv.2.2.1
  have e7 : A_barrelCount x I = f 7 := hr.2.2.1.2.1
  rw [e7] at hc ⊢
  have hk : tn (f 7) < 20 := by omega
  have hq12 : tn (f 12) ≤ tn (f 7) := VV_qle ((md_V_eq f).mp hv)
  have f7 : f 7 = nI (tn (f 7)) := (nI_tn h7.1).symm
  have hroom : K_hasRoom (x + 1) I = true := (room_eq (J := gm f) (m := 0) hr).mpr (show ¬ nI 20 ≤ f 7 by rw [f7]; exact fun z => absurd ((nI_le' (by decide) (by omega)).mp z) (by omega))
  obtain ⟨R, hR⟩ : ∃ R, R = j7_fill_53178 (x + 561) (nI l) (H_remember (x + 103) (x + 1) I) := ⟨_, rfl⟩
  have fo : ∀ b, b ≠ x + 561 → R b = H_remember (x + 103) (x + 1) I b := fun b hb => by rw [hR]; exact (fl_L 10 0 _).1 hb
  have ff : ∀ j, j < 9 → R (x + 561) j = nI l := fun j hj => by rw [hR]; exact (fl_L (b := 0) 10 0 _).2.2 (by decide) j (Nat.zero_le _) hj
  have hXR : au_V x R := by
    obtain ⟨a1, a2, a3, a4, a5, a6⟩ := hX2
    refine ⟨kV_eq a1 (fun b _ _ => fo b (by omega)), kV_eq a2 (fun b _ _ => fo b (by omega)), fun i hi => kV_eq (a3 i hi) (fun b _ _ => fo b (by omega)), fun i hi => kV_eq (a4 i hi) (fun b _ _ => fo b (by omega)), by rw [fo _ (by omega)]; exact a5, by rw [fo _ (by omega)]; exact a6⟩
  have hrR : rl (x + 1) R f := rl_I (rl_rem hX hr hv) hv (fun b h1 h2 => fo b (by omega)) (fun _ _ => rfl)
  have eJ : A_addBarrel x (nI r) (nI e) (nI l) I = ((K_takeBarrel (x + 1) (nI r) (x + 561) 0 e R).1, (K_takeBarrel (x + 1) (nI r) (x + 561) 0 e R).2) := by
    rw [hR]
    unfold A_addBarrel
    rw [tn_nI (by omega)]
    rfl
  obtain ⟨ht, hans⟩ := rl_take (a := x + 1) (m := 0) (I := R) (J := gm f) (r := nI r) (f := x + 561) (s := 0) (e := e) hrR hv hk (Or.inr (Or.inl (by omega))) (by omega) he.2 (fun _ => nI l) (fun j hj => by rw [Nat.zero_add]; exact (ff j (by omega)).symm)
  have hv2 := V_nb (m := 0) (cnt := e - 0) (r := nI r) (src := fun _ => nI l) (I := gm f) hv hk (by omega) (by omega)
  have hi2 := iv_take (m := 0) (B := B) (J := gm f) (r := nI r) (src := fun _ => nI l) (cnt := e - 0) hv hi hk (by omega) (by omega) ⟨r, rfl, hr1.1, by omega⟩ (fun j _ => ⟨l, rfl, hl1.1, hl1.2⟩)
  have ce := ce_new (m := 0) (J := gm f) (r := nI r) (show tn (f 12) < 20 by omega) hk
  rw [show tn (gm f (0 + 1) 7) = tn (f 7) from rfl] at ht hans hv2 hi2
  generalize hk0 : tn (f 7) = k at *
  have cg : ∀ j, md_fill ((M_newBarrel 0 (nI r) (gm f)).2 (0 + 1)) k 0 (fun _ => nI l) (e - 0) j = if j = 66 + 15 * k then nI (0 + (e - 0)) else if 67 + 15 * k + 0 ≤ j ∧ j < 67 + 15 * k + 0 + (e - 0) then nI l else (M_newBarrel 0 (nI r) (gm f)).2 (0 + 1) j := fun _ => rfl
  rw [show tn (gm f (0 + 1) 7) = k from hk0] at ce
  change ∀ j, (M_newBarrel 0 (nI r) (gm f)).2 (0 + 1) j = if j = 12 then f 12 + nI 1 else if j = 16 + tn (f 12) then nI k else if j = 66 + 15 * k + 12 then nI 0 else if j = 7 then f 7 + nI 1 else if j = 66 + 15 * k + 14 then -1 else if j = 66 + 15 * k + 13 then -1 else if j = 66 + 15 * k + 11 then nI 0 else if j = 66 + 15 * k + 10 then nI r else if j = 66 + 15 * k + 0 then nI 0 else f j at ce
  generalize md_fill ((M_newBarrel 0 (nI r) (gm f)).2 (0 + 1)) k 0 (fun _ => nI l) (e - 0) = g at *
  have s0 : ∀ j, j < 7 ∨ (7 < j ∧ j < 12) ∨ (12 < j ∧ j < 16) ∨ (36 ≤ j ∧ j < 66) → g j = f j := fun j hj => by rw [cg]; simp (disch := omega) only [if_neg, ce]
  have s7 : g 7 = nI (k + 1) := by
    rw [cg]; simp (disch := omega) only [if_neg, ce, if_pos, if_true]
    rw [f7, nI_add]
  have bn : ∀ i, i < 20 → i ≠ k → ∀ w, w < 15 → g (66 + 15 * i + w) = f (66 + 15 * i + w) := fun i hi hne w hw => by rw [cg]; simp (disch := omega) only [if_neg, ce]
  have b11 : g (66 + 15 * k + 11) = nI 0 := by rw [cg]; simp (disch := omega) only [if_neg, ce, if_pos, if_true]
  have b12 : g (66 + 15 * k + 12) = nI 0 := by rw [cg]; simp (disch := omega) only [if_neg, ce, if_pos, if_true]
  have b13 : g (66 + 15 * k + 13) = -1 := by rw [cg]; simp (disch := omega) only [if_neg, ce, if_pos, if_true]
  have b14 : g (66 + 15 * k + 14) = -1 := by rw [cg]; simp (disch := omega) only [if_neg, ce, if_pos, if_true]
  have b0 : g (66 + 15 * k + 0) = nI e := by
    have := cg (66 + 15 * k)
    rw [if_pos rfl, Nat.zero_add, Nat.sub_zero] at this
    exact this
  have bl1 : ∀ j, j < e → g (66 + 15 * k + (1 + j)) = nI l := fun j hj => by
    rw [cg, if_neg (by omega), if_pos (by omega)]
  have hlg := lk_new (k := k) hv hl hk0.symm hk (fun j hj => s0 j (by omega)) s7 (fun i hi hne w h1 h2 => bn i hi hne w h2) b11 b12 b13 b14
  rw [eJ]
  dsimp only
  have eJq : (K_takeBarrel (x + 1) (nI r) (x + 561) 0 e R).2 q = I q := by
    have h1 := h.2.2.2.2.1
    rw [rr_tbar (by omega) hXR.1.2.1.1, fo _ (by omega), rr_rem hX (by omega)]
  have hXJ : au_V x (K_takeBarrel (x + 1) (nI r) (x + 561) 0 e R).2 := au_mk hXR (fun b hb => rr_tbar (by omega) hXR.1.2.1.1) (kV_tbar hXR.1)
  have hLI : LI B x q (K_takeBarrel (x + 1) (nI r) (x + 561) 0 e R).2 := li_fin hXJ eJq ht hv2 hi2 hlg ⟨s0 0 (by omega), s0 1 (by omega), s0 2 (by omega), s0 4 (by omega)⟩ hq h.2.2.2.2.1 h.2.2.2.2.2.1 (op_c (s0 0 (by omega)) (s0 1 (by omega)) (s0 5 (by omega)) (s0 8 (by omega)) hop)
  have tk : tn (nI k) = k := tn_nI (by omega)
  have tg7 : tn (g 7) = k + 1 := by rw [s7, tn_nI (by omega)]
  have hkg : k < tn (g 7) := by omega
  obtain ⟨⟨c1, c2, -, -⟩, cl, -⟩ := ht.2.2.2.2.2.2 k hkg
  dsimp only at c1 c2 cl
  rw [b0, tn_nI (by omega)] at c2 cl
  rw [b0] at c1
  refine ⟨hroom, hLI, hans, ?_, ?_, ?_, ?_, ?_⟩
  · rw [ht.2.2.1.2.1]; exact tg7
  · unfold A_eels; rw [tk]; exact c1
  · unfold A_totalLength
    rw [tk, c2, sumL_c (f := fun _ => nI l) e (fun j hj => bl1 j hj), sum_k]
  · have hlar := lar (b := x + 1 + 11 + 2 * k) (I := (K_takeBarrel (x + 1) (nI r) (x + 561) 0 e R).2) (n := e) (kk := (e - 1) / 2) (g := fun _ => nI l) (by rw [c1, tn_nI (by omega)]) he.2 (by omega) (fun i j _ _ => Int32.le_refl _) (fun v => ⟨cL_c e (fun j hj => ((cl j hj).trans (bl1 j hj)).symm), cE_c e (fun j hj => ((cl j hj).trans (bl1 j hj)).symm)⟩)
    unfold A_middleLength
    rw [tk, c1, nI_sb (by omega), pk_div (by omega) (by omega) (by omega)]
    exact hlar
  · unfold A_stateOf
    rw [tk, (rl_bar ht hkg).2.2.1]
    exact b12
end ADB
