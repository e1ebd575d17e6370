theorem em_17 {m : Nat} {x : Int32} {I : ow_I} (hw : 0 ≤ I m 17) (hwb : tn (I m 17) < 200) : 0 ≤ M_emit m x I m 17 ∧ tn (M_emit m x I m 17) = tn (I m 17) + 1 := by
  have e : M_emit m x I m 17 = I m 17 + nI 1 := by
    simp only [M_emit, lt_eq]
    rw [ow_u_s, rr_u (by omega)]
  rw [e]
  exact tn_inc hw (by omega)
theorem rr_em {m a : Nat} {x : Int32} {I : ow_I} (h : a ≠ m) (h6 : a ≠ m + 6) : M_emit m x I a = I a := by
  simp only [M_emit, lt_eq]
  rw [rr_u h, rr_u h6]
theorem fr_em {m k : Nat} {x : Int32} {I : ow_I} (h : k ≠ 17) : M_emit m x I m k = I m k := by
  simp only [M_emit, lt_eq]
  rw [ow_u_k _ _ _ _ h, rr_u (by omega)]

theorem pw_c {u c : Nat} (hu : u = if c = 0 then 0 else 10 ^ (c - 1)) (hc : c ≤ 10) : u < 2 ^ 31 ∧ (c = 0 ↔ u = 0) ∧ (1 ≤ c → u / 10 = if c - 1 = 0 then 0 else 10 ^ (c - 1 - 1)) := by
  rcases (show c = 0 ∨ c = 1 ∨ c = 2 ∨ c = 3 ∨ c = 4 ∨ c = 5 ∨ c = 6 ∨ c = 7 ∨ c = 8 ∨ c = 9 ∨ c = 10 by omega) with z | z | z | z | z | z | z | z | z | z | z <;> subst z <;> subst hu <;> decide
theorem pw_1 {u c : Nat} (hu : u = if c = 0 then 0 else 10 ^ (c - 1)) (hc : c ≤ 10) (h : ¬ nI u ≤ 0) : 1 ≤ c := by
  rcases Nat.eq_zero_or_pos c with z | z
  · have := (pw_c hu hc).2.1.1 z
    rw [this] at h
    exact absurd (by decide) h
  · exact z
theorem pw_u {u c : Nat} (hu : u = if c = 0 then 0 else 10 ^ (c - 1)) (hc : c ≤ 10) (h : 1 ≤ c) : ¬ nI u = 0 := fun z => by
  have p := pw_c hu hc
  rw [nI_z p.1] at z
  have := p.2.1.2 z
  omega
theorem lk_11_323 : ow_lv RX11 323 yX11_emit cX11_emit 2 none 1 := ⟨ow_T_in 2224 (by decide +kernel) (by decide +kernel), ow_T_in 2226 (by decide +kernel) (by decide +kernel), ow_T_sel 109 (by decide +kernel) (by decide +kernel), ow_T_in 19 (by decide +kernel) (by decide +kernel), ow_T_in 2227 (by decide +kernel) (by decide +kernel), ⟨by decide +kernel, by decide +kernel, by decide +kernel⟩⟩
def M_emitNumber_L18 (m : Nat) (x : Int32) : Nat → ow_I → Nat → ow_I
  | 0, I, _ => I
  | n + 1, I, u => if nI u ≤ 0 then I else lt (M_emit m (nI 48 + ((x / (nI u)) - (x / (nI u)) / (nI 10) * (nI 10))) I) (fun (I1 : ow_I) => M_emitNumber_L18 m x n I1 (u / 10))
def M_emitNumber_L2 (m : Nat) (x : Int32) : Nat → ow_I → Nat → ow_I
  | 0, I, _ => I
  | n + 1, I, u => if x / (nI u) < nI 10 then M_emitNumber_L18 m x 11 I u else M_emitNumber_L2 m x n I (u * 10)
def M_emitNumber (m : Nat) (x : Int32) (I : ow_I) : ow_I :=
  M_emitNumber_L2 m x 10 I 1
set_option maxRecDepth 100000 in
set_option maxHeartbeats 400000 in
theorem cM_emitNumber {S : Nat → Option ow_Sh} {I : ow_I} {V : Nat → Nat → Value} {z : Nat} {m : Nat} {x : Int32} (h_m : md_S S m) (hw : 0 ≤ I m 17) (hwb : tn (I m 17) + 10 ≤ 200) : ow_Cf yX11_emitNumber cX11_emitNumber 3 none 1 [.ref m, .int x] (S, I, V, z) none (S, M_emitNumber m x I, V, z) := by
  refine ow_Cf.of rfl (Nat.le_of_ble_eq_true rfl) (fun X K E F hk => ?_)
  have E : ow_E X RX11 cX11_emitNumber 3 (ow_rm 1 0 0) := E
  refine or_lv [(0, .ref m), (1, .int x)] rfl ?_
  have L18 : ∀ (n : Nat) (I : ow_I) (u : Nat) (c : Nat) (hu : u = if c = 0 then 0 else 10 ^ (c - 1)) (hc : c ≤ 10) (hw : 0 ≤ I m 17) (hwb : tn (I m 17) + c ≤ 200) (hm : c < n) (hk : K none (S, M_emitNumber_L18 m x n I u, V, z)), ow_W X 0 0 (S, I, V, z) 18 [(0, .ref m), (1, .int x), (2, .int (nI u))] [] := by
    intro n
    induction n with
    | zero => intro I u c hu hc hw hwb hm; omega
    | succ n ih =>
      intro I u c hu hc hw hwb hm hk
      dsimp only [M_emitNumber_L18] at hk
      refine or_iload_n E rfl dX11_emitNumber_18 ?_
      refine or_if_le 43 E dX11_emitNumber_19 rfl (fun q19 => ?_) (fun q19 => ?_)
      · replace hk := ite_p (P := fun r : ow_I => K none (S, r, V, z)) q19 hk
        exact or_vret E F dX11_emitNumber_43 (Nat.le_refl _) (Nat.le_refl _) hk
      · replace hk := ite_n (P := fun r : ow_I => K none (S, r, V, z)) q19 hk
        refine or_aload_n E rfl dX11_emitNumber_22 ?_
        refine or_bipush (v := nI 48) E rfl dX11_emitNumber_23 ?_
        refine or_iload_n E rfl dX11_emitNumber_25 ?_
        refine or_iload_n E rfl dX11_emitNumber_26 ?_
        refine or_idiv E (pw_u hu hc (pw_1 hu hc q19)) dX11_emitNumber_27 ?_
        refine or_bipush (v := nI 10) E rfl dX11_emitNumber_28 ?_
        refine or_irem E (by decide) dX11_emitNumber_30 ?_
        refine or_iadd E dX11_emitNumber_31 ?_
        refine or_cV1v (cM_emit  h_m hw (by have := pw_1 hu hc q19; omega)) E lk_11_323 dX11_emitNumber_32 h_m.1 rfl rfl (by decide) (by decide) ⟨Nat.le_refl _, Nat.le_refl _⟩ (Nat.le_of_ble_eq_true rfl) ?_
        obtain ⟨I1, hI1⟩ : ∃ y_ : ow_I, y_ = M_emit m (nI 48 + ((x / (nI u)) - (x / (nI u)) / (nI 10) * (nI 10))) I := ⟨_, rfl⟩
        replace hk := lt_k (P := fun r : ow_I => K none (S, r, V, z)) hI1 hk
        refine or_nmI hI1 ?_
        refine or_iload_n E rfl dX11_emitNumber_35 ?_
        refine or_bipush (v := nI 10) E rfl dX11_emitNumber_36 ?_
        refine or_idivN E dX11_emitNumber_38 (by subst hI1; exact (pw_c hu hc).1) (by subst hI1; omega) (by subst hI1; omega) ?_
        refine or_istore_n E dX11_emitNumber_39 (by decide) ?_
        refine or_goto 18 E dX11_emitNumber_40 rfl ?_
        refine or_lv _ ?_ (ih _ _ (c - 1) (by subst hI1; exact ((pw_c hu hc).2.2 (pw_1 hu hc q19))) (by subst hI1; omega) (by subst hI1; exact (em_17 hw (by have := pw_1 hu hc q19; omega)).1) (by subst hI1; have h1 := pw_1 hu hc q19; rw [(em_17 hw (by omega)).2]; omega) (by subst hI1; have := pw_1 hu hc q19; omega) hk)
        rfl
  have L2 : ∀ (n : Nat) (I : ow_I) (u : Nat) (d : Nat) (hu : u = 10 ^ d) (hd : d ≤ 9) (hw : 0 ≤ I m 17) (hwb : tn (I m 17) + 10 ≤ 200) (hm : 9 - d < n) (hk : K none (S, M_emitNumber_L2 m x n I u, V, z)), ow_W X 0 0 (S, I, V, z) 2 [(0, .ref m), (1, .int x), (2, .int (nI u))] [] := by
    intro n
    induction n with
    | zero => intro I u d hu hd hw hwb hm; omega
    | succ n ih =>
      intro I u d hu hd hw hwb hm hk
      dsimp only [M_emitNumber_L2] at hk
      refine or_iload_n E rfl dX11_emitNumber_2 ?_
      refine or_iload_n E rfl dX11_emitNumber_3 ?_
      refine or_idiv E (by rw [hu]; exact pw_ne hd) dX11_emitNumber_4 ?_
      refine or_bipush (v := nI 10) E rfl dX11_emitNumber_5 ?_
      refine or_icmp_lt 18 E dX11_emitNumber_7 rfl (fun q7 => ?_) (fun q7 => ?_)
      · replace hk := ite_p (P := fun r : ow_I => K none (S, r, V, z)) q7 hk
        refine or_lv _ ?_ (L18 11 _ _ (d + 1) (by rw [hu]; rfl) (by omega) hw (by omega) (by omega) hk)
        rfl
      · replace hk := ite_n (P := fun r : ow_I => K none (S, r, V, z)) q7 hk
        refine or_iload_n E rfl dX11_emitNumber_10 ?_
        refine or_bipush (v := nI 10) E rfl dX11_emitNumber_11 ?_
        refine or_imulN E dX11_emitNumber_13 ?_
        refine or_istore_n E dX11_emitNumber_14 (by decide) ?_
        refine or_goto 2 E dX11_emitNumber_15 rfl ?_
        refine or_lv _ ?_ (ih _ _ (d + 1) (by rw [hu]; rfl) (by have h := (dig_8 hd (by rw [← hu]; exact i_nlt q7)).2; omega) hw hwb (by have h := (dig_8 hd (by rw [← hu]; exact i_nlt q7)).2; omega) hk)
        rfl
  dsimp only [M_emitNumber] at hk
  refine or_iconst (v := nI 1) E rfl dX11_emitNumber_0 ?_
  refine or_istore_n E dX11_emitNumber_1 (by decide) ?_
  refine or_lv _ ?_ (L2 10 _ _ 0 rfl (by omega) hw hwb (by decide) hk)
  rfl
