theorem rr_tw {p b w : Nat} {I : ow_I} (h : b ≠ p) (h1 : b ≠ p + 1) : (Q_takeWord p w I).2 b = I b := by
  simp only [Q_takeWord, lt_eq]
  (repeat' split) <;> simp only [rr_qf h, rr_adv h1]
theorem in_tw {p w : Nat} {I : ow_I} (hi : in_R (I (p + 1))) : in_R ((Q_takeWord p w I).2 (p + 1)) := by
  simp only [Q_takeWord, lt_eq]
  (repeat' split)
  · exact in_adv hi
  · exact in_row hi (rr_qf (by omega))
theorem rr_tbuy {a b : Nat} {p s f : Int32} {I : ow_I} (h : b < a ∨ a + 51 ≤ b) (h8 : tn (I a 8) ≤ 6) : K_takeBuyer a p s f I b = I b := by
  simp only [K_takeBuyer, lt_eq]
  split
  · rfl
  · rw [rr_u (by omega), rr_u (by omega), rr_ybg (by omega)]
theorem rr_tbar {a b f s e : Nat} {r : Int32} {I : ow_I} (h : b < a ∨ a + 51 ≤ b) (h10 : 0 ≤ I a 10) : (K_takeBarrel a r f s e I).2 b = I b := by
  simp only [K_takeBarrel, lt_eq]
  split
  · rename_i q
    have hr := kr_1 q h10
    simp (disch := omega) only [rr_kenq, rr_bbw, rr_bf, rr_u]
  · rfl
theorem kV_tn {a p : Nat} {l m : Int32} {I : ow_I} (hV : k_V a I) (hd : a + 51 ≤ p ∨ p + 46 ≤ a) : k_V a (Q_takeNumber p l m I).2 := kV_eq hV (fun b h1 h2 => rr_tn (by omega) (by omega))
theorem kV_ts {a p : Nat} {I : ow_I} (hV : k_V a I) (hd : a + 51 ≤ p ∨ p + 46 ≤ a) : k_V a (Q_takeSemicolon p I).2 := kV_eq hV (fun b h1 h2 => rr_ts (by omega) (by omega))
theorem kV_tw {a p w : Nat} {I : ow_I} (hV : k_V a I) (hd : a + 51 ≤ p ∨ p + 46 ≤ a) : k_V a (Q_takeWord p w I).2 := kV_eq hV (fun b h1 h2 => rr_tw (by omega) (by omega))
theorem kV_rb {a p : Nat} {I : ow_I} (hV : k_V a I) (hd : a + 51 ≤ p ∨ p + 46 ≤ a) : k_V a (Q_readBarrel p (p + 4) I).2 := kV_eq hV (fun b h1 h2 => rr_qb (by omega) (by omega) (by omega) (by omega))
theorem kV_beg {a p : Nat} {I : ow_I} (hV : k_V a I) (hd : a + 51 ≤ p ∨ p + 46 ≤ a) : k_V a (Q_begin p I) := kV_eq hV (fun b h1 h2 => rr_beg (by omega) (by omega))
theorem kV_get8 {a : Nat} {I : ow_I} (hV : k_V a I) : tn (I a 8) ≤ 6 := hV.1.2
theorem in_tbuy {a p q : Nat} {x s f : Int32} {I : ow_I} (hi : in_R (I (p + 1))) (hd : a + 51 ≤ p ∨ p + 46 ≤ a) (h8 : tn (I a 8) ≤ 6) : in_R (K_takeBuyer a x s f I (p + 1)) := in_row hi (rr_tbuy (by omega) h8)
theorem in_tbar {a p f s e : Nat} {r : Int32} {I : ow_I} (hi : in_R (I (p + 1))) (hd : a + 51 ≤ p ∨ p + 46 ≤ a) (h10 : 0 ≤ I a 10) : in_R ((K_takeBarrel a r f s e I).2 (p + 1)) := in_row hi (rr_tbar (by omega) h10)
theorem rr_emp {a b : Nat} {I : ow_I} (h : b < a ∨ a + 51 ≤ b) : K_beginEmpty a I b = I b := by
  simp only [K_beginEmpty, lt_eq]
  rw [rr_keb (by omega)]
  simp (disch := omega) only [rr_u]
