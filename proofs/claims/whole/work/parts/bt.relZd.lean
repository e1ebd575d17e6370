/-! what a good reading leaves: the error's cells, the commands -/
def okp (p : Nat) (I : ow_I) (R : Bool × ow_I) : Prop := R.1 = true → R.2 p 5 = I p 5 ∧ R.2 p 6 = I p 6
def okm (m : Nat) (J : ow_I) (S : Bool × ow_I) : Prop := S.1 = false → S.2 m 6 = J m 6 ∧ S.2 m 7 = J m 7
section OKP
variable {p m a c : Nat} {I J I' J' : ow_I}
theorem okp_s (h : I' p 5 = I p 5 ∧ I' p 6 = I p 6) {R : Bool × ow_I} (g : okp p I' R) : okp p I R := fun z => ⟨(g z).1.trans h.1, (g z).2.trans h.2⟩
theorem okp_t (h : I' p 5 = I p 5 ∧ I' p 6 = I p 6) : okp p I (true, I') := fun _ => h
theorem okp_f : okp p I (false, I') := fun z => Bool.noConfusion z
theorem okp_row (h : I' p = I p) : I' p 5 = I p 5 ∧ I' p 6 = I p 6 := by rw [h]; exact ⟨rfl, rfl⟩
theorem okp_b {r A : Bool × ow_I} (h : okp p I r) (g : okp p r.2 A) : okp p I (if r.1 = true then A else (false, r.2)) := by
  by_cases c : r.1 = true
  · rw [if_pos c]
    exact okp_s (h c) g
  · rw [if_neg c]
    exact okp_f
theorem okp_qf {c : Int32} : okp p I (Q_fail p c I) := by
  simp only [Q_fail, lt_eq]
  exact okp_f
theorem okp_ts : okp p I (Q_takeSemicolon p I) := by
  simp only [Q_takeSemicolon, lt_eq]
  split
  · exact okp_t (okp_row (rr_adv (by omega)))
  · exact okp_qf
theorem okp_tn {l h : Int32} : okp p I (Q_takeNumber p l h I) := by
  simp only [Q_takeNumber, lt_eq]
  split
  · split
    · exact okp_t (by rw [rr_adv (by omega), u_one, if_neg (by decide), u_one, if_neg (by decide)]; exact ⟨rfl, rfl⟩)
    · exact okp_qf
  · exact okp_qf
theorem okp_tw {w : Nat} : okp p I (Q_takeWord p w I) := by
  simp only [Q_takeWord, lt_eq]
  split
  · exact okp_t (okp_row (rr_adv (by omega)))
  · exact okp_qf
theorem okp_u {b k : Nat} {v : Int32} {R : Bool × ow_I} (hb : b ≠ p) (g : okp p (ow_u I b k v) R) : okp p I R := okp_s (okp_row (rr_u (Ne.symm hb))) g
theorem okp_lb {r : Bool × ow_I} {A : Bool × ow_I → Bool × ow_I} (h : okp p I r) (g : ∀ r, okp p r.2 (A r)) : okp p I (lt r (fun r => if r.1 = true then A r else (false, r.2))) := okp_b h (g r)
theorem okp_lu {b k : Nat} {v : Int32} {f : ow_I → Bool × ow_I} (hb : b ≠ p) (g : ∀ X, okp p X (f X)) : okp p I (lt (ow_u I b k v) f) := okp_u hb (g _)
theorem okp_ls {X : ow_I} {f : ow_I → Bool × ow_I} (h : X p = I p) (g : okp p X (f X)) : okp p I (lt X f) := okp_s (okp_row h) g
theorem okp_e {r : Bool × ow_I} (h : okp p I r) : okp p I (lt r (fun r => (r.1, r.2))) := h
theorem rr_tbu (hd : a + 51 ≤ p ∨ p + 46 ≤ a) {v s f : Int32} : K_takeBuyer a v s f I p = I p := by
  simp only [K_takeBuyer, Y_begin, lt_eq]
  split
  · rfl
  · simp (disch := omega) only [rr_u]
theorem okp_mk (h1 : a ≠ p) (h2 : a + 1 ≠ p) : okp p I (Q_readMarket p a I) := by
  unfold Q_readMarket
  refine okp_lb okp_tw (fun _ => okp_lb okp_tn (fun _ => okp_lu h2 (fun _ => okp_lb okp_tn (fun _ => okp_lu h2 (fun _ => okp_lb okp_tn (fun _ => okp_lu h1 (fun _ => okp_lb okp_tn (fun _ => okp_lu h1 (fun _ => okp_lb okp_tn (fun _ => okp_lu h1 (fun _ => okp_e okp_ts)))))))))))
theorem okp_by (hd : a + 51 ≤ p ∨ p + 46 ≤ a) : okp p I (Q_readBuyer p a I) := by
  unfold Q_readBuyer
  refine okp_lb okp_tw (fun _ => okp_lb okp_tn (fun _ => okp_lb okp_tn (fun _ => okp_lb okp_tn (fun _ => okp_ls (rr_tbu hd) (okp_e okp_ts)))))
theorem kV_byr (hd : a + 51 ≤ p ∨ p + 46 ≤ a) (hV : k_V a I) : k_V a (Q_readBuyer p a I).2 := by
  simp only [Q_readBuyer, lt_eq]
  (repeat' split) <;> (repeat (first | with_reducible exact hV | with_reducible refine kV_ts ?_ hd | with_reducible refine kV_tbuy ?_ | with_reducible refine kV_tn ?_ hd | with_reducible refine kV_tw ?_ hd))
theorem okp_bysL (hd : a + 51 ≤ p ∨ p + 46 ≤ a) : ∀ (n : Nat) (I : ow_I) (i : Nat), k_V a I → okp p I (Q_readBuyers_L12 p a n I i) := by
  intro n
  induction n with
  | zero => intro I i _; exact okp_f
  | succ n ih =>
    intro I i hV
    unfold Q_readBuyers_L12
    split
    · exact okp_t ⟨rfl, rfl⟩
    · split
      · split
        · exact okp_qf
        · exact okp_b (okp_by hd) (ih _ _ (kV_byr hd hV))
      · exact okp_t ⟨rfl, rfl⟩
theorem okp_bys (hd : a + 51 ≤ p ∨ p + 46 ≤ a) (hV : k_V a I) : okp p I (Q_readBuyers p a I) :=
  okp_b (okp_by hd) (okp_bysL hd _ _ _ (kV_byr hd hV))
theorem okp_brL (h1 : c ≠ p) (h2 : c + 1 ≠ p) : ∀ (n : Nat) (I : ow_I) (i : Nat), okp p I (Q_readBarrel_L23 p c n I i) := by
  intro n
  induction n with
  | zero => intro I i; exact okp_f
  | succ n ih =>
    intro I i
    unfold Q_readBarrel_L23
    split
    · exact okp_t ⟨rfl, rfl⟩
    · split
      · split
        · split <;> exact okp_qf
        · exact okp_b okp_tn (okp_u h2 (okp_u h1 (ih _ _)))
      · split
        · split
          · split <;> exact okp_qf
          · exact okp_b okp_tn (okp_u h2 (okp_u h1 (ih _ _)))
        · exact okp_t ⟨rfl, rfl⟩
theorem okp_br (h1 : c ≠ p) (h2 : c + 1 ≠ p) : okp p I (Q_readBarrel p c I) := okp_b okp_tn (okp_u h1 (okp_brL h1 h2 _ _ _))
theorem okp_brsL (hd : a + 51 ≤ p ∨ p + 46 ≤ a) : ∀ (n : Nat) (I : ow_I) (i : Nat), k_V a I → okp p I (Q_readBarrels_L2 p a n I i) := by
  intro n
  induction n with
  | zero => intro I i _; exact okp_f
  | succ n ih =>
    intro I i hV
    unfold Q_readBarrels_L2
    split
    · exact okp_t ⟨rfl, rfl⟩
    · split
      · split
        · exact okp_qf
        · have hV2 : k_V a (Q_takeSemicolon p (Q_readBarrel p (p + 4) (U_advance (p + 1) I)).2).2 := kV_ts (kV_rb (kV_eq hV (fun b z1 z2 => rr_adv (by omega))) hd) hd
          exact okp_s (okp_row (rr_adv (by omega))) (okp_b (okp_br (by omega) (by omega)) (okp_b okp_ts (okp_s (okp_row (rr_tbar (by omega) hV2.2.1.1)) (ih _ _ (kV_tbar hV2)))))
      · exact okp_t ⟨rfl, rfl⟩
/-! the reference's -/
theorem okm_s (h : J' m 6 = J m 6 ∧ J' m 7 = J m 7) {S : Bool × ow_I} (g : okm m J' S) : okm m J S := fun z => ⟨(g z).1.trans h.1, (g z).2.trans h.2⟩
theorem okm_f (h : J' m 6 = J m 6 ∧ J' m 7 = J m 7) : okm m J (false, J') := fun _ => h
theorem okm_t : okm m J (true, J') := fun z => Bool.noConfusion z
theorem okm_row (h : J' m = J m) : J' m 6 = J m 6 ∧ J' m 7 = J m 7 := by rw [h]; exact ⟨rfl, rfl⟩
theorem okm_b {r A : Bool × ow_I} (h : okm m J r) (g : okm m r.2 A) : okm m J (if r.1 = true then (true, r.2) else A) := by
  by_cases c : r.1 = true
  · rw [if_pos c]
    exact okm_t
  · rw [if_neg c]
    have : r.1 = false := by cases hq : r.1 with | true => exact absurd hq c | false => rfl
    exact okm_s (h this) g
theorem okm_lb {r : Bool × ow_I} {A : Bool × ow_I → Bool × ow_I} (h : okm m J r) (g : ∀ r, okm m r.2 (A r)) : okm m J (lt r (fun r => if r.1 = true then (true, r.2) else A r)) := okm_b h (g r)
theorem okm_ls {X : ow_I} {f : ow_I → Bool × ow_I} (h : X m = J m) (g : okm m X (f X)) : okm m J (lt X f) := okm_s (okm_row h) g
theorem okm_e {r : Bool × ow_I} (h : okm m J r) : okm m J (lt r (fun r => (r.1, r.2))) := h
theorem okm_fl {c : Int32} : okm m J (M_fails m c J) := by
  simp only [M_fails, lt_eq]
  exact okm_t
theorem rt_67 : M_readToken m J m 6 = J m 6 ∧ M_readToken m J m 7 = J m 7 := ⟨fr_readToken (by omega), fr_readToken (by omega)⟩
theorem okm_this {q : Nat} {lo hi : Int32} : okm m J (M_failsAtThis m q lo hi J) := by
  simp only [M_failsAtThis, lt_eq]
  split
  · split
    · exact okm_f (okm_row (rr_u (by omega)))
    · exact okm_fl
  · exact okm_fl
theorem okm_num {q : Nat} {lo hi : Int32} : okm m J (M_failsAtNumber m q lo hi J) := okm_s rt_67 okm_this
theorem okm_end : okm m J (M_failsAtEnd m J) := by
  simp only [M_failsAtEnd, lt_eq]
  split
  · exact okm_f rt_67
  · exact okm_fl
theorem okm_next : okm m J (M_failsAtNext m J) := okm_s rt_67 okm_end
theorem okm_mk : okm m J (M_failsAtMarket m J) := by
  unfold M_failsAtMarket
  split
  · refine okm_lb okm_num (fun _ => okm_lb okm_num (fun _ => okm_lb okm_num (fun _ => okm_lb okm_num (fun _ => okm_lb okm_num (fun _ => okm_ls (rr_begin (by omega)) (okm_e okm_next))))))
  · exact okm_e okm_fl
theorem okm_by : okm m J (M_failsAtBuyer m J) := by
  unfold M_failsAtBuyer
  split
  · split
    · exact okm_e okm_fl
    · refine okm_lb okm_num (fun _ => okm_lb okm_num (fun _ => okm_lb okm_num (fun _ => okm_ls (rr_addBuyer (by omega)) (okm_e okm_next))))
  · exact okm_e okm_fl
theorem m13_67 {v : Int32} : ow_u J m 13 v m 6 = J m 6 ∧ ow_u J m 13 v m 7 = J m 7 := by
  rw [u_one, if_neg (by decide), u_one, if_neg (by decide)]
  exact ⟨rfl, rfl⟩
theorem okm_brL : ∀ (n : Nat) (J : ow_I), okm m J (M_failsAtBarrel_L23 m n J) := by
  intro n
  induction n with
  | zero => intro J; exact okm_f ⟨rfl, rfl⟩
  | succ n ih =>
    intro J
    have step : okm m J (lt (M_failsAtThis m (tn (J m 13)) (nI 10) (nI 150) J) (fun (r4 : Bool × ow_I) => if r4.1 then (true, r4.2) else if tn (J m 13) ≤ 9 then lt (ow_u r4.2 m 13 (r4.2 m 13 + (nI 1))) (fun (I5 : ow_I) => lt (M_readToken m I5) (fun (I6 : ow_I) => M_failsAtBarrel_L23 m n I6 )) else lt (M_fails m (nI 3) r4.2) (fun (r7 : Bool × ow_I) => (r7.1, r7.2)))) := by
      refine okm_b okm_this ?_
      split
      · exact okm_s m13_67 (okm_s rt_67 (ih _))
      · exact okm_fl
    have f13 : (M_failsAtThis m (tn (J m 13)) (nI 10) (nI 150) J).2 m 13 = J m 13 := fr_this (by omega)
    simp only [lt_eq] at step
    unfold M_failsAtBarrel_L23
    simp only [lt_eq, f13]
    simp only [f13] at step
    split
    · exact step
    · split
      · exact step
      · exact okm_f ⟨rfl, rfl⟩
theorem okm_br : okm m J (M_failsAtBarrel m J) := okm_b okm_num (okm_s m13_67 (okm_s rt_67 (okm_brL _ _)))
theorem okm_1L : ∀ (n : Nat) (J : ow_I) (b i : Nat), okm m J (M_failsAtFirstBarrel_L40 m n J b i) := by
  intro n
  induction n with
  | zero => intro J b i; exact okm_f ⟨rfl, rfl⟩
  | succ n ih =>
    intro J b i
    unfold M_failsAtFirstBarrel_L40
    split
    · exact okm_end
    · exact okm_s (okm_row (rr_addEel (by omega))) (ih _ _ _)
theorem okm_1st : okm m J (M_failsAtFirstBarrel m J) := by
  unfold M_failsAtFirstBarrel
  split
  · exact okm_fl
  · exact okm_b okm_br (okm_s (okm_row (rr_newBarrel (by omega))) (okm_1L _ _ _ _))
theorem okm_37 : ∀ (n : Nat) (J : ow_I), okm m J (M_failsAtSetup_L37 m n J) := by
  intro n
  induction n with
  | zero => intro J; exact okm_f ⟨rfl, rfl⟩
  | succ n ih =>
    intro J
    unfold M_failsAtSetup_L37
    split
    · exact okm_b okm_1st (ih _)
    · split
      · exact okm_f ⟨rfl, rfl⟩
      · exact okm_b okm_fl (okm_f ⟨rfl, rfl⟩)
theorem okm_20 : ∀ (n : Nat) (J : ow_I), okm m J (M_failsAtSetup_L20 m n J) := by
  intro n
  induction n with
  | zero => intro J; exact okm_f ⟨rfl, rfl⟩
  | succ n ih =>
    intro J
    unfold M_failsAtSetup_L20
    split
    · exact okm_b okm_by (ih _)
    · exact okm_37 _ _
end OKP
