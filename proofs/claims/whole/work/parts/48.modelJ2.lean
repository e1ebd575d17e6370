theorem V_coins {m n : Nat} {s : Int32} {I : ow_I} (hv : md_V (I (m + 1))) : md_V ((M_coinsWith m s n I).2 (m + 1)) := by
  have hc : md_V (M_copyBlock m 0 12 I (m + 1)) := V_cb hv (by decide)
  have hf := F_t (F_0 (m := m) (x := s) (I := M_copyBlock m 0 12 I) rfl) (F_passAll (n := n) (V_row hc s (Or.inr (Or.inr rfl))))
  simp only [M_coinsWith, M_endTrial, lt_eq]
  refine V_blk hv (fun k hk => ?_)
  rw [cb_cells (by omega), if_pos (by omega), hf.2 _ (by omega), cb_cells (by omega), if_pos (by omega)]
  rw [show 370 * 0 + (370 * 12 + (k - 370 * 0) - 370 * 12) = k by omega]
