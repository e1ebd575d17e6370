def ps_T (p a : Nat) (I J : ow_I) : Prop := in_R (J (p + 1)) ∧ k_V a J ∧ ∀ b, (b < p ∨ p + 46 ≤ b) → (b < a ∨ a + 51 ≤ b) → J b = I b
section PST
variable {p a : Nat} {I J : ow_I}
theorem pT_of (h : ps_T p a I J) {J' : ow_I} (h1 : in_R (J' (p + 1))) (h2 : k_V a J') (h3 : ∀ b, (b < p ∨ p + 46 ≤ b) → (b < a ∨ a + 51 ≤ b) → J' b = J b) : ps_T p a I J' := ⟨h1, h2, fun b q1 q2 => (h3 b q1 q2).trans (h.2.2 b q1 q2)⟩
theorem pT_tn {l m : Int32} (h : ps_T p a I J) (hd : a + 51 ≤ p ∨ p + 46 ≤ a) : ps_T p a I (Q_takeNumber p l m J).2 := pT_of h (in_tn h.1) (kV_tn h.2.1 hd) (fun b q1 _ => rr_tn (by omega) (by omega))
theorem pT_ts (h : ps_T p a I J) (hd : a + 51 ≤ p ∨ p + 46 ≤ a) : ps_T p a I (Q_takeSemicolon p J).2 := pT_of h (in_ts h.1) (kV_ts h.2.1 hd) (fun b q1 _ => rr_ts (by omega) (by omega))
theorem pT_tw {w : Nat} (h : ps_T p a I J) (hd : a + 51 ≤ p ∨ p + 46 ≤ a) : ps_T p a I (Q_takeWord p w J).2 := pT_of h (in_tw h.1) (kV_tw h.2.1 hd) (fun b q1 _ => rr_tw (by omega) (by omega))
theorem pT_rb (h : ps_T p a I J) (hd : a + 51 ≤ p ∨ p + 46 ≤ a) : ps_T p a I (Q_readBarrel p (p + 4) J).2 := pT_of h (in_rb h.1 (by omega)) (kV_rb h.2.1 hd) (fun b q1 _ => rr_qb (by omega) (by omega) (by omega) (by omega))
theorem pT_adv (h : ps_T p a I J) (hd : a + 51 ≤ p ∨ p + 46 ≤ a) : ps_T p a I (U_advance (p + 1) J) := pT_of h (in_adv h.1) (kV_eq h.2.1 (fun b h1 h2 => rr_adv (by omega))) (fun b q1 _ => rr_adv (by omega))
theorem pT_beg (h : ps_T p a I J) (hd : a + 51 ≤ p ∨ p + 46 ≤ a) : ps_T p a I (Q_begin p J) := pT_of h (in_beg h.1) (kV_beg h.2.1 hd) (fun b q1 _ => rr_beg (by omega) (by omega))
theorem pT_qf {c : Int32} (h : ps_T p a I J) (hd : a + 51 ≤ p ∨ p + 46 ≤ a) : ps_T p a I (Q_fail p c J).2 := pT_of h (in_row h.1 (rr_qf (by omega))) (kV_eq h.2.1 (fun b h1 h2 => rr_qf (by omega))) (fun b q1 _ => rr_qf (by omega))
theorem pT_tbuy {x s f : Int32} (h : ps_T p a I J) (hd : a + 51 ≤ p ∨ p + 46 ≤ a) : ps_T p a I (K_takeBuyer a x s f J) := pT_of h (in_row h.1 (rr_tbuy (by omega) h.2.1.1.2)) (kV_tbuy h.2.1) (fun b _ q => rr_tbuy q h.2.1.1.2)
theorem pT_tbar {f s e : Nat} {r : Int32} (h : ps_T p a I J) (hd : a + 51 ≤ p ∨ p + 46 ≤ a) : ps_T p a I (K_takeBarrel a r f s e J).2 := pT_of h (in_row h.1 (rr_tbar (by omega) h.2.1.2.1.1)) (kV_tbar h.2.1) (fun b _ q => rr_tbar q h.2.1.2.1.1)
theorem pT_emp (h : ps_T p a I J) (hd : a + 51 ≤ p ∨ p + 46 ≤ a) : ps_T p a I (K_beginEmpty a J) := pT_of h (in_row h.1 (rr_emp (by omega))) (kV_empty h.2.1) (fun b _ q => rr_emp q)
theorem pT_row {k : Nat} {x : Int32} (h : ps_T p a I J) (hd : a + 51 ≤ p ∨ p + 46 ≤ a) : ps_T p a I (ow_u J (a + 1) k x) := pT_of h (in_row h.1 (rr_u (by omega))) (kV_row h.2.1 (by omega) (by omega) (Or.inl fun i _ => by omega)) (fun b _ q => rr_u (by omega))
theorem pT_a {k : Nat} {x : Int32} (h : ps_T p a I J) (hd : a + 51 ≤ p ∨ p + 46 ≤ a) (hk : k ≠ 8 ∧ k ≠ 10 ∧ k ≠ 12 ∧ k ≠ 13 ∧ k ≠ 15) : ps_T p a I (ow_u J a k x) := pT_of h (in_row h.1 (rr_u (by omega))) (kV_a h.2.1 hk) (fun b _ q => rr_u (by omega))
theorem pT_ry (hT : ps_T p a I J) (hd : a + 51 ≤ p ∨ p + 46 ≤ a) : ps_T p a I (Q_readBuyer p a J).2 := by
  simp only [Q_readBuyer, lt_eq]
  (repeat' split) <;> (repeat (first | with_reducible exact hT | with_reducible refine pT_tn ?_ hd | with_reducible refine pT_ts ?_ hd | with_reducible refine pT_tw ?_ hd | with_reducible refine pT_rb ?_ hd | with_reducible refine pT_adv ?_ hd | with_reducible refine pT_beg ?_ hd | with_reducible refine pT_qf ?_ hd | with_reducible refine pT_tbuy ?_ hd | with_reducible refine pT_tbar ?_ hd | with_reducible refine pT_emp ?_ hd | with_reducible refine pT_row ?_ hd | with_reducible refine pT_a ?_ hd (by decide)))
theorem pT_rm (hT : ps_T p a I J) (hd : a + 51 ≤ p ∨ p + 46 ≤ a) : ps_T p a I (Q_readMarket p a J).2 := by
  simp only [Q_readMarket, lt_eq]
  (repeat' split) <;> (repeat (first | with_reducible exact hT | with_reducible refine pT_tn ?_ hd | with_reducible refine pT_ts ?_ hd | with_reducible refine pT_tw ?_ hd | with_reducible refine pT_rb ?_ hd | with_reducible refine pT_adv ?_ hd | with_reducible refine pT_beg ?_ hd | with_reducible refine pT_qf ?_ hd | with_reducible refine pT_tbuy ?_ hd | with_reducible refine pT_tbar ?_ hd | with_reducible refine pT_emp ?_ hd | with_reducible refine pT_row ?_ hd | with_reducible refine pT_a ?_ hd (by decide)))
end PST
