/-! THE FIRST SETUP: read by the class, written by the reference -/
def fs_J : ow_I := fun b j => if b = 0 then (if j = 5 then nI (gl_len 9) else 0) else if b = 3 then nI (gl_ch 9 j) else if b = 7 then nI (mi_w.getD j 0) else 0
theorem fs_ok : (M_failsAtSetup 0 fs_J).1 = false := by decide +kernel
theorem fs_cells : ∀ j : Fin 366, (M_failsAtSetup 0 fs_J).2 1 j.val = mi_I 0 fs_J 1 j.val := by decide +kernel
theorem fs_len : gl_len 9 ≤ 500 := by decide
theorem fs_ch : ∀ j : Fin 500, j.val < gl_len 9 → gl_ch 9 j.val < 256 ∧ nI (gl_ch 9 j.val) = (nI (gl_ch 9 j.val)).toInt8.toInt32 := by decide +kernel
section FST
variable {m u x : Nat} {I I' J J' : ow_I}
theorem as_L : ∀ (k i : Nat) (I : ow_I), i ≤ gl_len 9 → gl_len 9 - i < k → I u 1 = nI i → (∀ j, j < i → I (u + 1) j = nI (gl_ch 9 j)) → (U_addSigns_L2 u 9 k I i) u 1 = nI (gl_len 9) ∧ (∀ j, j < gl_len 9 → (U_addSigns_L2 u 9 k I i) (u + 1) j = nI (gl_ch 9 j)) ∧ ∀ b, b ≠ u → b ≠ u + 1 → (U_addSigns_L2 u 9 k I i) b = I b := by
  intro k
  induction k with
  | zero => intro i I h1 h2; omega
  | succ k ih =>
    intro i I h1 h2 h3 h4
    have hl := fs_len
    unfold U_addSigns_L2
    by_cases d : gl_len 9 ≤ i
    · rw [if_pos d]
      obtain rfl : i = gl_len 9 := by omega
      exact ⟨h3, h4, fun _ _ _ => rfl⟩
    · rw [if_neg d, lt_eq]
      have e : U_addByte u (nI (gl_ch 9 i)) I = ow_u (ow_u I (u + 1) i (nI (gl_ch 9 i))) u 1 (nI (i + 1)) := by
        unfold U_addByte
        rw [h3, tn_nI (by omega), if_neg (by omega), lt_eq, lt_eq, rr_u (show u ≠ u + 1 by omega), h3, nI_add]
      rw [e]
      obtain ⟨g1, g2, g3⟩ := ih (i + 1) (ow_u (ow_u I (u + 1) i (nI (gl_ch 9 i))) u 1 (nI (i + 1))) (by omega) (by omega) (ow_u_s _ _ _ _) (fun j hj => by
        rw [rr_u (by omega), u_one]
        by_cases z : j = i
        · rw [if_pos z, z]
        · rw [if_neg z]
          exact h4 j (by omega))
      exact ⟨g1, g2, fun b z1 z2 => by rw [g3 b z1 z2, rr_u z1, rr_u z2]⟩
/-- the market's rows agree below 370 -/
def ag (m : Nat) (I I' : ow_I) : Prop := ∀ j, j < 370 → I (m + 1) j = I' (0 + 1) j
theorem ag_u {k : Nat} {v v' : Int32} (h : ag m I I') (e : v = v') : ag m (ow_u I (m + 1) k v) (ow_u I' (0 + 1) k v') := by
  intro j hj
  rw [u_one, u_one, e]
  by_cases c : j = k
  · rw [if_pos c, if_pos c]
  · rw [if_neg c, if_neg c]
    exact h j hj
theorem ag_bm {a0 a1 a2 a3 a4 : Int32} : ag m (M_beginMarket m a0 a1 a2 a3 a4 I) (M_beginMarket 0 a0 a1 a2 a3 a4 I') := by
  intro j hj
  rw [bm_cells, bm_cells]
  simp only [if_pos hj]
theorem ag_ab {p s f : Int32} (h : ag m I I') : ag m (M_addBuyer m p s f I) (M_addBuyer 0 p s f I') := by
  have e6 := h 6 (by omega)
  simp only [M_addBuyer, M_put, lt_eq]
  rw [← e6]
  have a5 := ag_u (k := 36 + 5 * tn (I (m + 1) 6) + 4) (v := nI 0) (ag_u (k := 36 + 5 * tn (I (m + 1) 6) + 3) (v := nI 0) (ag_u (k := 36 + 5 * tn (I (m + 1) 6) + 2) (v := f) (ag_u (k := 36 + 5 * tn (I (m + 1) 6) + 1) (v := s) (ag_u (k := 36 + 5 * tn (I (m + 1) 6) + 0) (v := p) h rfl) rfl) rfl) rfl) rfl
  have a6 := ag_u (k := 15) a5 (congrArg (fun z => z + p) (a5 15 (by omega)))
  exact ag_u (k := 6) a6 (congrArg (fun z => z + nI 1) (a6 6 (by omega)))
theorem ag_pb {b w : Nat} {v : Int32} (h : ag m I I') : ag m (M_putBarrel m b w v I) (M_putBarrel 0 b w v I') := ag_u h rfl
theorem ag_ae {b : Nat} {v : Int32} (h : ag m I I') (hb : b < 20) : ag m (M_addEel m b v I) (M_addEel 0 b v I') := by
  have e0 : M_ofBarrel 0 b 0 I' = M_ofBarrel m b 0 I := (h (66 + 15 * b + 0) (by omega)).symm
  simp only [M_addEel, lt_eq]
  rw [e0]
  exact ag_pb (ag_pb h)
end FST
