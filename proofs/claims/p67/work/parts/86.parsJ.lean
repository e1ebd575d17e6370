section PST2
variable {p a : Nat} {I J : ow_I}
theorem pT_rysL (hd : a + 51 ≤ p ∨ p + 46 ≤ a) : ∀ (n : Nat) (J : ow_I) (i : Nat), ps_T p a I J → ps_T p a I (Q_readBuyers_L12 p a n J i).2 := by
  intro n
  induction n with
  | zero => intro J i h; exact h
  | succ n ih =>
    intro J i h
    simp only [Q_readBuyers_L12, lt_eq]
    split
    · exact h
    · split
      · split
        · exact pT_qf h hd
        · split
          · exact ih _ _ (pT_ry h hd)
          · exact pT_ry h hd
      · exact h
theorem pT_rys (h : ps_T p a I J) (hd : a + 51 ≤ p ∨ p + 46 ≤ a) : ps_T p a I (Q_readBuyers p a J).2 := by
  simp only [Q_readBuyers, lt_eq]
  split
  · exact pT_rysL hd _ _ _ (pT_ry h hd)
  · exact pT_ry h hd
theorem pT_rbsL (hd : a + 51 ≤ p ∨ p + 46 ≤ a) : ∀ (n : Nat) (J : ow_I) (i : Nat), ps_T p a I J → ps_T p a I (Q_readBarrels_L2 p a n J i).2 := by
  intro n
  induction n with
  | zero => intro J i h; exact h
  | succ n ih =>
    intro J i h
    have h1 := pT_rb (pT_adv h hd) hd
    simp only [Q_readBarrels_L2, lt_eq]
    split
    · exact h
    · split
      · split
        · exact pT_qf h hd
        · split
          · split
            · exact ih _ _ (pT_tbar (pT_ts h1 hd) hd)
            · exact pT_ts h1 hd
          · exact h1
      · exact h
theorem pT_rbs (h : ps_T p a I J) (hd : a + 51 ≤ p ∨ p + 46 ≤ a) : ps_T p a I (Q_readBarrels p a J).2 := by
  simp only [Q_readBarrels, lt_eq]
  exact pT_rbsL hd _ _ _ h
end PST2
