/-! A MINUTE OF THE REFERENCE, CASE BY CASE -/
section PO
variable {m B : Nat} {J : ow_I}
def tk1 (m : Nat) (J : ow_I) : ow_I := ow_u J (m + 1) 5 (J (m + 1) 5 + nI 1)
def qt1 (m : Nat) (J : ow_I) : ow_I := ow_u (tk1 m J) (m + 1) 11 (tk1 m J (m + 1) 11 + nI 1)
theorem tk1_r (j : Nat) : tk1 m J (m + 1) j = if j = 5 then J (m + 1) 5 + nI 1 else J (m + 1) j := u_one
/-- what holds of the minute's numbers -/
def poN (J : ow_I) (m p l pa n : Nat) : Prop := J (m + 1) 0 = nI p ∧ J (m + 1) 1 = nI l ∧ J (m + 1) 2 = nI pa ∧ J (m + 1) 5 = nI n ∧ (5 ≤ p ∧ p ≤ 60) ∧ (1 ≤ l ∧ l ≤ p) ∧ (1 ≤ pa ∧ pa ≤ 9) ∧ n ≤ 2 ^ 29
def po1 (m : Nat) (J : ow_I) : Prop := (J (m + 1) 8 = -1 ∧ M_passOne m J = tk1 m J) ∨ (0 ≤ J (m + 1) 8 ∧ M_passOne m J = M_closeBarrel m (tk1 m J))
def po2 (m : Nat) (J : ow_I) (pa : Nat) : Prop := (J (m + 1) 8 = -1 ∧ M_passOne m J = M_openFirst m (tk1 m J)) ∨ (∃ q0 : Nat, J (m + 1) 11 = nI q0 ∧ q0 < pa ∧ 0 ≤ J (m + 1) 8 ∧ M_thinker m (tk1 m J) = -1 ∧ ((q0 + 1 = pa ∧ M_passOne m J = M_closeBarrel m (qt1 m J)) ∨ (q0 + 1 < pa ∧ M_passOne m J = qt1 m J))) ∨
  (∃ y : Nat, 0 ≤ J (m + 1) 8 ∧ M_thinker m (tk1 m J) = nI y ∧ y < tn (J (m + 1) 6) ∧ M_reasonAgainst m y (tk1 m J) = 0 ∧ M_passOne m J = (M_nodNow m y (tk1 m J)).2)
theorem tk1_v (hv : md_V (J (m + 1))) : md_V (tk1 m J (m + 1)) := V_row hv (J (m + 1) 5 + nI 1) (Or.inl rfl)
theorem tk1_i (hv : md_V (J (m + 1))) (hi : iv B (J (m + 1))) (hB : B < 2 ^ 28) : iv (B + 1) (tk1 m J (m + 1)) := iv_t1 hi hv (by omega)
theorem po_cases (hv : md_V (J (m + 1))) (hi : iv B (J (m + 1))) (hB : B < 2 ^ 28) : ∃ p l pa n : Nat, poN J m p l pa n ∧ (((n + 1) % p = l ∧ po1 m J) ∨ ((n + 1) % p < l ∧ po2 m J pa) ∨ (l < (n + 1) % p ∧ M_passOne m J = tk1 m J)) := by
  obtain ⟨⟨⟨p, l, e0, p5, p60, e1, l1, lp⟩, ⟨pa, e2, pa1, pa9⟩, -, -, n, e5, hn⟩, -⟩ := id hi
  refine ⟨p, l, pa, n, ⟨e0, e1, e2, e5, ⟨p5, p60⟩, ⟨l1, lp⟩, ⟨pa1, pa9⟩, by omega⟩, ?_⟩
  have hv1 := tk1_v hv
  have hi1 := tk1_i hv hi hB
  unfold po1 po2
  rw [show M_passOne m J = (if M_blowsIn m (tk1 m J (m + 1) 5) (tk1 m J) then if tk1 m J (m + 1) 8 < 0 then if M_isOpenNow m (tk1 m J) then if 0 ≤ tk1 m J (m + 1) 8 then M_think m (tk1 m J) else M_openFirst m (tk1 m J) else tk1 m J else if M_isOpenNow m (M_closeBarrel m (tk1 m J)) then if 0 ≤ M_closeBarrel m (tk1 m J) (m + 1) 8 then M_think m (M_closeBarrel m (tk1 m J)) else M_openFirst m (M_closeBarrel m (tk1 m J)) else M_closeBarrel m (tk1 m J) else if M_isOpenNow m (tk1 m J) then if 0 ≤ tk1 m J (m + 1) 8 then M_think m (tk1 m J) else M_openFirst m (tk1 m J) else tk1 m J) from rfl]
  have q8 : tk1 m J (m + 1) 8 = J (m + 1) 8 := by rw [tk1_r, if_neg (by decide)]
  have q6 : tk1 m J (m + 1) 6 = J (m + 1) 6 := by rw [tk1_r, if_neg (by decide)]
  have q11 : tk1 m J (m + 1) 11 = J (m + 1) 11 := by rw [tk1_r, if_neg (by decide)]
  have f0 : tk1 m J (m + 1) 0 = nI p := by rw [tk1_r, if_neg (by decide)]; exact e0
  have f1 : tk1 m J (m + 1) 1 = nI l := by rw [tk1_r, if_neg (by decide)]; exact e1
  have f2 : tk1 m J (m + 1) 2 = nI pa := by rw [tk1_r, if_neg (by decide)]; exact e2
  have f5 : tk1 m J (m + 1) 5 = nI (n + 1) := by rw [tk1_r, if_pos rfl, e5, nI_add]
  have hb := blow_N (m := m) (J := tk1 m J) (n := n + 1) f0 f1 ⟨p5, p60⟩ ⟨l1, lp⟩ ⟨by omega, by omega⟩
  have ho := opn_N (m := m) (J := tk1 m J) (n := n + 1) f0 f1 ⟨p5, p60⟩ lp (by omega)
  have hon : M_isOpenNow m (tk1 m J) = decide ((n + 1) % p < l) := by
    unfold M_isOpenNow
    rw [f5]
    exact ho
  have hq : qt1 m J = ow_u (tk1 m J) (m + 1) 11 (tk1 m J (m + 1) 11 + nI 1) := rfl
  rw [hq]
  generalize hJ1 : tk1 m J = J1 at *
  rw [f5, hb, hon]
  by_cases c : (n + 1) % p = l
  · left
    refine ⟨c, ?_⟩
    rw [decide_eq_true c, if_pos rfl, decide_eq_false (show ¬ (n + 1) % p < l by omega), if_neg (show ¬ false = true by decide)]
    rcases mV8 hv1 with q | q
    · left
      rw [if_pos (show J1 (m + 1) 8 < 0 by rw [q]; decide)]
      exact ⟨q8 ▸ q, rfl⟩
    · right
      rw [if_neg (i_ge q.1)]
      have hno : M_isOpenNow m (M_closeBarrel m J1) = false := by
        have k0 : M_closeBarrel m J1 (m + 1) 0 = J1 (m + 1) 0 ∧ M_closeBarrel m J1 (m + 1) 1 = J1 (m + 1) 1 ∧ M_closeBarrel m J1 (m + 1) 5 = J1 (m + 1) 5 := by
          have hob := mdV_8 hv1 q.1
          have hyb := mdV_10 hv1
          simp only [M_closeBarrel, lt_eq]
          split
          · simp only [M_turnBack, M_enqueue, M_putBarrel, lt_eq]
            split <;> (refine ⟨?_, ?_, ?_⟩ <;> simp (disch := omega) only [u_one, rr_u, if_neg, if_pos, if_true])
          · simp only [M_sell, M_put, M_putBarrel, lt_eq]
            refine ⟨?_, ?_, ?_⟩ <;> simp (disch := omega) only [u_one, rr_u, if_neg, if_pos, if_true]
        unfold M_isOpenNow
        rw [k0.2.2, f5, opn_N (k0.1.trans f0) (k0.2.1.trans f1) ⟨p5, p60⟩ lp (by omega), decide_eq_false (by omega)]
      rw [hno, if_neg (by decide)]
      exact ⟨by rw [← q8]; exact q.1, rfl⟩
  · right
    rw [decide_eq_false c, if_neg (show ¬ false = true by decide)]
    by_cases d : (n + 1) % p < l
    · left
      refine ⟨d, ?_⟩
      rw [decide_eq_true d, if_pos rfl]
      rcases mV8 hv1 with q | q
      · left
        rw [if_neg (show ¬ 0 ≤ J1 (m + 1) 8 by rw [q]; exact i_m1)]
        exact ⟨q8 ▸ q, rfl⟩
      · right
        rw [if_pos q.1]
        rcases th_or hv1 with z | ⟨z1, z2, z3, z4⟩
        · left
          obtain ⟨-, q0, eq, hq⟩ := hi1.2.2.2.1 q.1
          rw [f2, tn_nI (by omega)] at hq
          refine ⟨q0, by rw [← q11]; exact eq, hq, by rw [← q8]; exact q.1, z, ?_⟩
          unfold M_think
          rw [if_pos (show M_thinker m J1 < 0 by rw [z]; decide)]
          simp only [lt_eq]
          have g3 : ow_u J1 (m + 1) 11 (J1 (m + 1) 11 + nI 1) (m + 1) 11 = nI (q0 + 1) := by rw [ow_u_s, eq, nI_add]
          have g4 : ow_u J1 (m + 1) 11 (J1 (m + 1) 11 + nI 1) (m + 1) 2 = nI pa := by rw [u_one, if_neg (by decide), f2]
          rw [g3, g4]
          by_cases w : q0 + 1 = pa
          · left
            rw [if_neg (show ¬ nI (q0 + 1) < nI pa by rw [w]; exact fun z => Int32.lt_irrefl z)]
            exact ⟨w, rfl⟩
          · right
            rw [if_pos ((nI_lt' (by omega) (by omega)).mpr (by omega))]
            exact ⟨by omega, rfl⟩
        · right
          refine ⟨tn (M_thinker m J1), by rw [← q8]; exact q.1, (nI_tn z1).symm, by rw [← q6]; exact z2, z4, ?_⟩
          unfold M_think
          rw [if_neg (i_ge z1)]
          rfl
    · right
      refine ⟨by omega, ?_⟩
      rw [decide_eq_false d, if_neg (show ¬ false = true by decide)]
theorem lk_pass {P : Nat} (hP : P < 2 ^ 31) (hv : md_V (J (m + 1))) (hi : iv B (J (m + 1))) (hB : B < 2 ^ 28) (h : lgf P (J (m + 1))) : lgf P (M_passOne m J (m + 1)) ∧ kq (J (m + 1)) (M_passOne m J (m + 1)) := by
  obtain ⟨p, l, pa, n, -, hc⟩ := po_cases hv hi hB
  have hv1 := tk1_v hv
  have hi1 := tk1_i hv hi hB
  have l1 : lgf P (tk1 m J (m + 1)) ∧ kq (J (m + 1)) (tk1 m J (m + 1)) := lk_u hv (Or.inl rfl) h
  have q8 : tk1 m J (m + 1) 8 = J (m + 1) 8 := by rw [tk1_r, if_neg (by decide)]
  have q6 : tk1 m J (m + 1) 6 = J (m + 1) 6 := by rw [tk1_r, if_neg (by decide)]
  have l2 : lgf P (qt1 m J (m + 1)) ∧ kq (tk1 m J (m + 1)) (qt1 m J (m + 1)) := lk_u hv1 (Or.inr (Or.inl rfl)) l1.1
  rcases hc with ⟨-, hc | ⟨h8, e⟩⟩ | ⟨-, ⟨h8, e⟩ | ⟨q0, eq0, hq0, h8, ht, hc⟩ | ⟨y, h8, ht, hy, hr, e⟩⟩ | ⟨-, e⟩
  · rw [hc.2]; exact l1
  · rw [e]
    have := lk_close hP hv1 (iv_w hi1) (by rw [q8]; exact h8) l1.1
    exact ⟨this.1, l1.2.tr this.2⟩
  · rw [e]
    have := lk_open hv1 l1.1
    exact ⟨this.1, l1.2.tr this.2⟩
  · rcases hc with ⟨-, e⟩ | ⟨-, e⟩
    · rw [e]
      have hv2 : md_V (qt1 m J (m + 1)) := V_row hv1 _ (Or.inr (Or.inl rfl))
      have := lk_close hP hv2 (iw_q1 hv1 hi1) (by show 0 ≤ qt1 m J (m + 1) 8; unfold qt1; rw [u_one, if_neg (by decide), q8]; exact h8) l2.1
      exact ⟨this.1, (l1.2.tr l2.2).tr this.2⟩
    · rw [e]; exact ⟨l2.1, l1.2.tr l2.2⟩
  · rw [e]
    have := lk_nod (b := y) hv1 (by have := hv.2.1.2.2; omega) l1.1
    exact ⟨this.1, l1.2.tr this.2⟩
  · rw [e]; exact l1
theorem lk_c5 (hv : md_V (J (m + 1))) (h8 : 0 ≤ J (m + 1) 8) : M_closeBarrel m J (m + 1) 5 = J (m + 1) 5 := by
  have hob := mdV_8 hv h8
  have hyb := mdV_10 hv
  simp only [M_closeBarrel, lt_eq]
  split
  · simp only [M_turnBack, M_enqueue, M_putBarrel, lt_eq]
    split <;> (simp (disch := omega) only [u_one, rr_u, if_neg, if_pos, if_true])
  · simp only [M_sell, M_put, M_putBarrel, lt_eq]
    simp (disch := omega) only [u_one, rr_u, if_neg, if_pos, if_true]
theorem lk_c8 : M_closeBarrel m J (m + 1) 8 = -1 := by
  simp only [M_closeBarrel, lt_eq]
  split <;> simp (disch := omega) only [u_one, rr_u, if_neg, if_pos, if_true]
/-- a barrel stands open only while the tide is low -/
theorem po_open (hv : md_V (J (m + 1))) (hi : iv B (J (m + 1))) (hB : B < 2 ^ 28) (ho : 0 ≤ J (m + 1) 8 → M_isOpenNow m J = true) : 0 ≤ M_passOne m J (m + 1) 8 → M_isOpenNow m (M_passOne m J) = true := by
  intro h
  obtain ⟨p, l, pa, n, ⟨n0, n1, n2, n5, hp, hll, hpa, hn⟩, hc⟩ := po_cases hv hi hB
  have hv1 := tk1_v hv
  have q8 : tk1 m J (m + 1) 8 = J (m + 1) 8 := by rw [tk1_r, if_neg (by decide)]
  have key : ∀ K : ow_I, K (m + 1) 0 = J (m + 1) 0 → K (m + 1) 1 = J (m + 1) 1 → K (m + 1) 5 = J (m + 1) 5 + nI 1 → (n + 1) % p < l → M_isOpenNow m K = true := fun K k0 k1 k5 hlt => by
    unfold M_isOpenNow
    rw [k5, n5, nI_add, opn_N (k0.trans n0) (k1.trans n1) hp hll.2 (by omega), decide_eq_true hlt]
  have t0 : tk1 m J (m + 1) 0 = J (m + 1) 0 := by rw [tk1_r, if_neg (by decide)]
  have t1 : tk1 m J (m + 1) 1 = J (m + 1) 1 := by rw [tk1_r, if_neg (by decide)]
  have t5 : tk1 m J (m + 1) 5 = J (m + 1) 5 + nI 1 := by rw [tk1_r, if_pos rfl]
  have nm : ¬ (0 : Int32) ≤ -1 := i_m1
  rcases hc with ⟨-, ⟨h8, e⟩ | ⟨h8, e⟩⟩ | ⟨hlt, ⟨h8, e⟩ | ⟨q0, eq0, hq0, h8, ht, hc⟩ | ⟨y, h8, ht, hy, hr, e⟩⟩ | ⟨hgt, e⟩
  · rw [e, q8, h8] at h; exact absurd h nm
  · rw [e, lk_c8] at h; exact absurd h nm
  · rw [e]
    by_cases c0 : tn (tk1 m J (m + 1) 12) = 0
    · unfold M_openFirst
      rw [if_pos c0]
      exact key _ t0 t1 t5 hlt
    · have c := ce_open hv1 c0
      refine key _ ?_ ?_ ?_ hlt
      · rw [c]; simp (disch := omega) only [if_neg]; exact t0
      · rw [c]; simp (disch := omega) only [if_neg]; exact t1
      · rw [c]; simp (disch := omega) only [if_neg]; exact t5
  · rcases hc with ⟨-, e⟩ | ⟨-, e⟩
    · rw [e, lk_c8] at h; exact absurd h nm
    · rw [e]
      refine key _ ?_ ?_ ?_ hlt
      · unfold qt1; rw [u_one, if_neg (by decide)]; exact t0
      · unfold qt1; rw [u_one, if_neg (by decide)]; exact t1
      · unfold qt1; rw [u_one, if_neg (by decide)]; exact t5
  · rw [e]
    have c := ce_nod (m := m) (J := tk1 m J) (b := y) (by have := hv.2.1.2.2; omega)
    refine key _ ?_ ?_ ?_ hlt
    · rw [c]; simp (disch := omega) only [if_neg]; exact t0
    · rw [c]; simp (disch := omega) only [if_neg]; exact t1
    · rw [c]; simp (disch := omega) only [if_neg]; exact t5
  · rw [e, q8] at h
    have := ho h
    unfold M_isOpenNow at this
    rw [n5, opn_N n0 n1 hp hll.2 (by omega)] at this
    have hlt := of_decide_eq_true this
    have hm : (n + 1) % p = if n % p + 1 = p then 0 else n % p + 1 := by
      rw [Nat.add_mod, Nat.mod_eq_of_lt (show 1 < p by omega)]
      have := Nat.mod_lt n (show 0 < p by omega)
      split
      · rename_i e; rw [e, Nat.mod_self]
      · exact Nat.mod_eq_of_lt (by omega)
    rw [hm] at hgt
    split at hgt <;> omega
end PO
