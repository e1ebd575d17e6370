/-! verbs of the commands: place 0 of a command's row holds their number -/
theorem ow_hV {S : Nat → Option ow_Sh} {I : ow_I} {V V2 : Nat → Nat → Value} {z : Nat} (h : V = V2) : ((S, I, V, z) : ow_H) = (S, I, V2, z) := by rw [h]
theorem fwv_3_0 : ∃ r : vw_C, ow_cl[3]? = some r ∧ (r.2.1 0).2.2.2 = false ∧ parseFieldDescriptor (r.2.1 0).2.2.1 = some (.object "LowWaterAuction$Verb") := ⟨_, rfl, rfl, by decide +kernel⟩
theorem ow_ghost {D : va_G} {U : State} {S : Nat → Option ow_Sh} {I : ow_I} {V : Nat → Nat → Value} {z a k ci : Nat} {κ : Nat → Option (Option Value)} {H : Heap} {x : Int32} (hS : S a = some (.inl (ci, κ))) (hk : κ k = some none) (h : ow_R D U (S, I, V, z) H) : ow_R D U (S, ow_u I a k x, V, z) H := by
  refine ⟨fun b sh hs => ?_, h.2⟩
  have h1 := h.1 b sh hs
  by_cases hb : b = a
  · subst hb
    cases hS.symm.trans hs
    obtain ⟨r, g1, g2⟩ := h1
    refine ⟨r, g1, g2.to (fun j _ => ?_)⟩
    by_cases hj : j = k
    · subst hj
      show ow_v (κ j) (I b j) (V b j) = ow_v (κ j) _ (V b j)
      rw [hk]
      rfl
    · show ow_v (κ j) (I b j) (V b j) = ow_v (κ j) (ow_u I b k x b j) (V b j)
      rw [ow_u_k _ _ _ _ hj]
  · cases sh with
    | inl o =>
      obtain ⟨r, g1, g2⟩ := h1
      exact ⟨r, g1, g2.to (fun j _ => by show ow_v _ (I b j) _ = ow_v _ (ow_u I a k x b j) _; rw [ow_u_a _ _ _ _ hb])⟩
    | inr y =>
      obtain ⟨cA, g1, g2, g3⟩ := h1
      refine ⟨cA, ?_, g2, g3⟩
      have e : (fun j => ow_v (y.2.2 j) (ow_u I a k x b j) (V b j)) = (fun j => ow_v (y.2.2 j) (I b j) (V b j)) := by
        funext j
        rw [ow_u_a _ _ _ _ hb]
      show H[b]? = some (arrV cA y.2.1 (fun j => ow_v (y.2.2 j) (ow_u I a k x b j) (V b j)))
      rw [e]
      exact g1
theorem or_gho {X : ow_X} {cs sl : Nat} {S : Nat → Option ow_Sh} {I : ow_I} {V : Nat → Nat → Value} {z pc a k ci : Nat} {lv : List (Nat × Value)} {st : List Value} {κ : Nat → Option (Option Value)} {x : Int32} (hS : S a = some (.inl (ci, κ))) (hk : κ k = some none) (kk : ow_W X cs sl (S, ow_u I a k x, V, z) pc lv st) : ow_W X cs sl (S, I, V, z) pc lv st := by
  obtain ⟨p, l, e, R, s, m, args, below, meth, c, Q, D, A⟩ := X
  intro H locs ls hR hD hSS hl
  exact kk H locs ls (ow_ghost hS hk hR) hD hSS hl
