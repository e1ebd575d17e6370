/-! THE GRAMMAR'S PIECES: both take or refuse alike -/
def pe (p m : Nat) (I J : ow_I) : Prop := I p 5 = J m 6 ∧ I p 6 = J m 7
section GRA
variable {p m : Nat} {I J I' J' : ow_I}
theorem tk_of {u : Nat} (h : tk u m I J) (e1 : ∀ j, 1 ≤ j → j ≤ 5 → I' u j = I u j) (e2 : I' (u + 1) = I (u + 1)) (e3 : ∀ j, (j = 5 ∨ (8 ≤ j ∧ j ≤ 11)) → J' m j = J m j) (e4 : J' (m + 3) = J (m + 3)) : tk u m I' J' := by
  obtain ⟨n, t, s, e, c, h1, h2, h3, h4, h5, h6, h7, h8, h9, h10, h11, h12⟩ := h
  refine ⟨n, t, s, e, c, tq_of h1 (e1 1 (by omega) (by omega)) e2 (e3 5 (by omega)) e4, by rw [e1 3 (by omega) (by omega), h2], by rw [e3 10 (by omega), h3], by rw [e1 4 (by omega) (by omega), h4], by rw [e3 8 (by omega), h5], h6, h7, by rw [e1 2 (by omega) (by omega), h8], by rw [e3 9 (by omega), h9], h10, h11, fun z => ?_⟩
  rw [e1 5 (by omega) (by omega), e3 11 (by omega)]
  exact h12 z
theorem tk_row {u : Nat} (h : tk u m I J) (e1 : I' u = I u) (e2 : I' (u + 1) = I (u + 1)) (e3 : J' m = J m) (e4 : J' (m + 3) = J (m + 3)) : tk u m I' J' := tk_of h (fun j _ _ => by rw [e1]) e2 (fun j _ => by rw [e3]) e4
theorem tk_k {u : Nat} (h : tk u m I J) : I u 2 = J m 9 ∧ I u 3 = J m 10 ∧ I u 2 = nI (tn (I u 2)) := by
  obtain ⟨n, t, s, e, c, h1, h2, h3, h4, h5, h6, h7, h8, h9, h10, -⟩ := h
  exact ⟨h8.trans h9.symm, h2.trans h3.symm, by rw [h8, tn_nI (by omega)]⟩
theorem fail_er {c : Int32} (h : tk (p + 1) m I J) : (Q_fail p c I).1 = false ∧ (M_fails m c J).1 = true ∧ pe p m (Q_fail p c I).2 (M_fails m c J).2 := by
  obtain ⟨-, h3, -⟩ := tk_k h
  simp only [Q_fail, M_fails, lt_eq]
  refine ⟨trivial, trivial, ?_, ?_⟩
  · rw [u_one, if_neg (by decide), ow_u_s, u_one, if_neg (by decide), ow_u_s]
  · rw [ow_u_s, ow_u_s, rr_u (by omega), u_one, if_neg (by decide), h3]
theorem in_iff {lo hi w : Nat} (hw : w ≤ 10000000) (hh : hi < 1000000) (h5 : I (p + 1) 5 = nI (min w 1000000)) (h11 : J m 11 = nI w) : (Q_isInRange p (nI lo) (nI hi) I = true ↔ lo ≤ w ∧ w ≤ hi) ∨ ¬ lo ≤ 1000000 := by
  by_cases hl : lo ≤ 1000000
  · left
    unfold Q_isInRange
    rw [h5]
    by_cases a : min w 1000000 < lo
    · rw [if_pos ((nI_ltI (by omega) (by omega)).mpr a)]
      exact ⟨fun z => absurd z (by decide), fun z => by omega⟩
    · rw [if_neg (fun z => a ((nI_ltI (by omega) (by omega)).mp z))]
      by_cases b : hi < min w 1000000
      · rw [if_pos ((nI_ltI (by omega) (by omega)).mpr b)]
        exact ⟨fun z => absurd z (by decide), fun z => by omega⟩
      · rw [if_neg (fun z => b ((nI_ltI (by omega) (by omega)).mp z))]
        exact ⟨fun _ => by omega, fun _ => rfl⟩
  · exact Or.inr hl
theorem min_iff {lo hi w : Nat} (hw : w ≤ 10000000) (hl : lo ≤ 1000000) (hh : hi < 1000000) (h11 : J m 11 = nI w) {J2 : ow_I} : M_in (J m 11) (nI lo) (nI hi) J2 = true ↔ lo ≤ w ∧ w ≤ hi := by
  unfold M_in
  rw [h11]
  by_cases a : w < lo
  · rw [if_pos ((nI_ltI (by omega) (by omega)).mpr a)]
    exact ⟨fun z => absurd z (by decide), fun z => by omega⟩
  · rw [if_neg (fun z => a ((nI_ltI (by omega) (by omega)).mp z))]
    by_cases b : hi < w
    · rw [if_pos ((nI_ltI (by omega) (by omega)).mpr b)]
      exact ⟨fun z => absurd z (by decide), fun z => by omega⟩
    · rw [if_neg (fun z => b ((nI_ltI (by omega) (by omega)).mp z))]
      exact ⟨fun _ => by omega, fun _ => rfl⟩
/-- a number taken: the class goes on at once, the reference does not -/
theorem num_eq {q lo hi : Nat} (h : tk (p + 1) m I J) (hl : lo ≤ 1000000) (hh : hi < 1000000) :
    ((Q_takeNumber p (nI lo) (nI hi) I).1 = true ∧ (M_failsAtThis m q (nI lo) (nI hi) J).1 = false ∧ tk (p + 1) m (Q_takeNumber p (nI lo) (nI hi) I).2 (M_readToken m (M_failsAtThis m q (nI lo) (nI hi) J).2) ∧ tk (p + 1) m I (M_failsAtThis m q (nI lo) (nI hi) J).2 ∧ Q_isInRange p (nI lo) (nI hi) I = true ∧ I (p + 1) 2 = nI 2 ∧ (Q_takeNumber p (nI lo) (nI hi) I).2 = U_advance (p + 1) (ow_u I p 4 (I (p + 1) 5)) ∧
      ∃ w, (Q_takeNumber p (nI lo) (nI hi) I).2 p 4 = nI w ∧ (M_failsAtThis m q (nI lo) (nI hi) J).2 (m + 4) q = nI w ∧ lo ≤ w ∧ w ≤ hi) ∨
    ((Q_takeNumber p (nI lo) (nI hi) I).1 = false ∧ (M_failsAtThis m q (nI lo) (nI hi) J).1 = true ∧ pe p m (Q_takeNumber p (nI lo) (nI hi) I).2 (M_failsAtThis m q (nI lo) (nI hi) J).2 ∧ (I (p + 1) 2 = nI 2 → Q_isInRange p (nI lo) (nI hi) I = false ∧ (M_failsAtThis m q (nI lo) (nI hi) J) = M_fails m (nI 2) J)) := by
  obtain ⟨k1, k2, -⟩ := tk_k h
  have hid := h
  obtain ⟨n, t, s, e, c, h1, h2, h3, h4, h5, h6, h7, h8, h9, h10, h11, h12⟩ := h
  by_cases hc : c = 2
  · obtain ⟨w, g1, g2, g3⟩ := h12 hc
    rw [hc] at h8 h9
    have r1 : Q_isInRange p (nI lo) (nI hi) I = true ↔ lo ≤ w ∧ w ≤ hi := by
      rcases in_iff (lo := lo) g3 hh g1 g2 with r | r
      · exact r
      · exact absurd hl r
    have r2 : M_in (J m 11) (nI lo) (nI hi) J = true ↔ lo ≤ w ∧ w ≤ hi := min_iff g3 hl hh g2
    by_cases d : lo ≤ w ∧ w ≤ hi
    · left
      have a1 := r1.mpr d
      have a2 := r2.mpr d
      simp only [Q_takeNumber, M_failsAtThis, lt_eq]
      rw [if_pos h8, if_pos a1, if_pos h9, if_pos a2]
      refine ⟨rfl, rfl, ?_, ?_, a1, h8, rfl, w, ?_, ?_, d⟩
      · exact tok_next (tk_row hid (rr_u (by omega)) (rr_u (by omega)) (rr_u (by omega)) (rr_u (by omega)))
      · exact tk_row hid rfl rfl (rr_u (by omega)) (rr_u (by omega))
      · show U_advance (p + 1) _ p 4 = nI w
        rw [rr_adv (by omega), ow_u_s, g1]
        congr 1
        omega
      · show ow_u J (m + 4) q (J m 11) (m + 4) q = nI w
        rw [ow_u_s, g2]
    · right
      have a1 : Q_isInRange p (nI lo) (nI hi) I = false := by
        cases hq : Q_isInRange p (nI lo) (nI hi) I with
        | true => exact absurd (r1.mp hq) d
        | false => rfl
      have a2 : ¬ M_in (J m 11) (nI lo) (nI hi) J = true := fun z => d (r2.mp z)
      obtain ⟨f1, f2, f3⟩ := fail_er (c := nI 2) hid
      simp only [Q_takeNumber, M_failsAtThis, lt_eq]
      rw [if_pos h8, if_neg (by rw [a1]; decide), if_pos h9, if_neg a2]
      exact ⟨f1, f2, f3, fun _ => ⟨a1, rfl⟩⟩
  · right
    have n8 : ¬ I (p + 1) 2 = nI 2 := by
      rw [h8]
      exact fun z => hc ((nI_eq (by omega) (by decide)).mp z)
    obtain ⟨f1, f2, f3⟩ := fail_er (c := nI 1) hid
    simp only [Q_takeNumber, M_failsAtThis, lt_eq]
    rw [if_neg n8, if_neg (by rw [← k1]; exact n8)]
    exact ⟨f1, f2, f3, fun z => absurd z n8⟩
/-- what both readings give -/
def pr (p m : Nat) (P : ow_I → ow_I → Prop) (R S : Bool × ow_I) : Prop := (∃ A C, R = (true, A) ∧ S = (false, C) ∧ P A C) ∨ (∃ A C, R = (false, A) ∧ S = (true, C) ∧ pe p m A C)
theorem fr_qfail {c : Int32} {k : Nat} (hk : k ≠ 5) (h6 : k ≠ 6) : (Q_fail p c I).2 p k = I p k := by
  simp only [Q_fail, lt_eq]
  rw [u_one, if_neg h6, u_one, if_neg hk]
theorem fr_tnm {l h : Int32} {k : Nat} (h4 : k ≠ 4) (h5 : k ≠ 5) (h6 : k ≠ 6) : (Q_takeNumber p l h I).2 p k = I p k := by
  simp only [Q_takeNumber, lt_eq]
  split
  · split
    · show U_advance (p + 1) _ p k = _
      rw [rr_adv (by omega), u_one, if_neg h4]
    · exact fr_qfail h5 h6
  · exact fr_qfail h5 h6
theorem prod_eq {α β : Type} {R : α × β} {x : α} (h : R.1 = x) : R = (x, R.2) := by
  obtain ⟨a, b⟩ := R
  cases h
  rfl
/-- the number's step -/
def nst (p m q w : Nat) (I J R S : ow_I) : Prop := tk (p + 1) m R (M_readToken m S) ∧ R p 4 = nI w ∧ S (m + 4) q = nI w ∧ (∀ b, b ≠ p → b ≠ p + 1 → R b = I b) ∧ (∀ k, k ≠ 4 → k ≠ 5 → k ≠ 6 → R p k = I p k) ∧ (∀ b, b ≠ m → b ≠ m + 4 → S b = J b) ∧ (∀ j, j ≠ q → S (m + 4) j = J (m + 4) j) ∧ (∀ k, (k < 6 ∨ 11 < k) → S m k = J m k) ∧ ∃ Ib, R = U_advance (p + 1) Ib ∧ tk (p + 1) m Ib S
theorem num_st {q lo hi : Nat} (h : tk (p + 1) m I (M_readToken m J)) (hl : lo ≤ 1000000) (hh : hi < 1000000) :
    (∃ w R S, Q_takeNumber p (nI lo) (nI hi) I = (true, R) ∧ M_failsAtNumber m q (nI lo) (nI hi) J = (false, S) ∧ lo ≤ w ∧ w ≤ hi ∧ nst p m q w I J R S) ∨ (∃ R S, Q_takeNumber p (nI lo) (nI hi) I = (false, R) ∧ M_failsAtNumber m q (nI lo) (nI hi) J = (true, S) ∧ pe p m R S) := by
  have eJ : M_failsAtNumber m q (nI lo) (nI hi) J = M_failsAtThis m q (nI lo) (nI hi) (M_readToken m J) := by simp only [M_failsAtNumber, lt_eq]
  rcases num_eq (q := q) h hl hh with ⟨a1, a2, a3, a4, -, -, a9, w, a5, a6, a7, a8⟩ | ⟨a1, a2, a3, -⟩
  · refine Or.inl ⟨w, _, _, prod_eq a1, (eJ.trans (prod_eq a2)), a7, a8, a3, a5, a6, fun b h1 h2 => rr_tn h1 h2, fun k h4 h5 h6 => fr_tnm h4 h5 h6, fun b h1 h2 => ?_, fun j hj => ?_, fun k hk => ?_, _, a9, tk_row a4 (rr_u (by omega)) (rr_u (by omega)) rfl rfl⟩
    · rw [← eJ]; exact rr_num h1 h2
    · rw [← eJ]; exact nu_oth hj
    · rw [← eJ]; exact fr_num hk
  · exact Or.inr ⟨_, _, prod_eq a1, (eJ.trans (prod_eq a2)), a3⟩
theorem semi_eq (h : tk (p + 1) m I J) :
    ((Q_takeSemicolon p I).1 = true ∧ (M_failsAtEnd m J).1 = false ∧ tk (p + 1) m (Q_takeSemicolon p I).2 (M_failsAtEnd m J).2) ∨ ((Q_takeSemicolon p I).1 = false ∧ (M_failsAtEnd m J).1 = true ∧ pe p m (Q_takeSemicolon p I).2 (M_failsAtEnd m J).2) := by
  obtain ⟨k1, k2, -⟩ := tk_k h
  simp only [Q_takeSemicolon, M_failsAtEnd, lt_eq]
  rw [← k1]
  by_cases c : I (p + 1) 2 = nI 3
  · rw [if_pos c, if_pos c]
    exact Or.inl ⟨rfl, rfl, tok_next h⟩
  · rw [if_neg c, if_neg c]
    exact Or.inr (fail_er h)
theorem fr_adv {u k : Nat} {I : ow_I} (hk : k = 0 ∨ k = 1 ∨ 6 ≤ k) : U_advance u I u k = I u k := by
  have k93 : ∀ (n : Nat) (I : ow_I) (r : Nat), U_advance_L93 u n I r u k = I u k := by
    intro n
    induction n with
    | zero => intro I r; rfl
    | succ n ih =>
      intro I r
      simp only [U_advance_L93, lt_eq]
      (repeat' split) <;> (try rfl) <;> (rw [ih]; simp (disch := omega) only [u_one, if_neg])
  have k8 : ∀ (n : Nat) (I : ow_I), U_advance_L8 u n I u k = I u k := by
    intro n
    induction n with
    | zero => intro I; rfl
    | succ n ih =>
      intro I
      simp only [U_advance_L8, lt_eq]
      (repeat' split) <;> (first | rw [k93] | rw [ih]) <;> simp (disch := omega) only [u_one, if_neg]
  unfold U_advance
  rw [lt_eq, k8, u_one, if_neg (by omega)]
theorem fr_tsm {k : Nat} (h5 : k ≠ 5) (h6 : k ≠ 6) : (Q_takeSemicolon p I).2 p k = I p k := by
  simp only [Q_takeSemicolon, lt_eq]
  split
  · show U_advance (p + 1) _ p k = _
    rw [rr_adv (by omega)]
  · exact fr_qfail h5 h6
theorem semi_st (h : tk (p + 1) m I J) : pr p m (fun R S => tk (p + 1) m R S ∧ (∀ b, b ≠ p → b ≠ p + 1 → R b = I b) ∧ (∀ k, k ≠ 5 → k ≠ 6 → R p k = I p k) ∧ (∀ b, b ≠ m → S b = J b) ∧ ∀ k, (k < 6 ∨ 11 < k) → S m k = J m k) (Q_takeSemicolon p I) (M_failsAtEnd m J) := by
  rcases semi_eq h with ⟨a1, a2, a3⟩ | ⟨a1, a2, a3⟩
  · exact Or.inl ⟨_, _, prod_eq a1, prod_eq a2, a3, fun b h1 h2 => rr_ts h1 h2, fun k h5 h6 => fr_tsm h5 h6, fun b h1 => rr_end h1, fun k hk => fr_end hk⟩
  · exact Or.inr ⟨_, _, prod_eq a1, prod_eq a2, a3⟩
theorem fail_st {c : Int32} {P : ow_I → ow_I → Prop} (h : tk (p + 1) m I J) : pr p m P (Q_fail p c I) (M_fails m c J) := by
  obtain ⟨a1, a2, a3⟩ := fail_er (c := c) h
  exact Or.inr ⟨_, _, prod_eq a1, prod_eq a2, a3⟩
/-- the text is begun -/
theorem beg_eq {n : Nat} (h : tx (p + 1) m I J n) : tk (p + 1) m (Q_begin p I) (M_beginText m J) := by
  obtain ⟨t, hq⟩ := tx_tq h
  simp only [Q_begin, M_beginText, U_restart, lt_eq]
  refine tok_at (e := 0) (n := n) (t := t) (tq_of hq ?_ ?_ ?_ ?_) (ow_u_s _ _ _ _) ?_ (Nat.zero_le _)
  all_goals (simp (disch := omega) only [u_one, rr_u, if_neg, if_pos, if_true])
theorem beg_er {n : Nat} (h : tx (p + 1) m I J n) : pe p m (Q_begin p I) (M_beginText m J) := by
  simp only [Q_begin, M_beginText, U_restart, lt_eq]
  refine ⟨?_, ?_⟩
  · rw [rr_adv (by omega), rr_u (by omega), u_one, if_neg (by decide), ow_u_s]
    rw [fr_readToken (by omega)]
    simp (disch := omega) only [u_one, if_neg, if_pos, if_true]
  · rw [rr_adv (by omega), rr_u (by omega), ow_u_s]
    rw [fr_readToken (by omega)]
    simp (disch := omega) only [u_one, if_neg, if_pos, if_true]
end GRA
