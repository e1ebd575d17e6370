/-! THE START: the classes of the list, found -/
theorem ow_known {s : State} {args : Array Value} (h : ∀ w ∈ ow_T, w.before args s = true) : ∃ D : va_G, va_K D ow_cl [] s := by
  have hk : ∀ c : Nat, ∃ (cC : ClassId) (iS : Nat → Nat), ∀ q : vw_C, ow_cl[c]? = some q → u_Kn s q.1 q.2.1 q.2.2 cC iS := by
    intro c
    match c with
    | 0 =>
      obtain ⟨cC, iS, e⟩ := u_known h ow_ok8.1 (h (Cond.instantiable RX8 3) (ow_T_in 45 (by decide +kernel) (by decide +kernel)))
      refine ⟨cC, iS, fun q hq => ?_⟩
      cases hq
      exact e
    | 1 =>
      obtain ⟨cC, iS, e⟩ := u_known h ow_ok1.1 (h (Cond.instantiable RX1 10) (ow_T_in 98 (by decide +kernel) (by decide +kernel)))
      refine ⟨cC, iS, fun q hq => ?_⟩
      cases hq
      exact e
    | 2 =>
      obtain ⟨cC, iS, e⟩ := u_known h ow_ok2.1 (h (Cond.instantiable RX2 5) (ow_T_in 68 (by decide +kernel) (by decide +kernel)))
      refine ⟨cC, iS, fun q hq => ?_⟩
      cases hq
      exact e
    | 3 =>
      obtain ⟨cC, iS, e⟩ := u_known h ow_ok3.1 (h (Cond.instantiable RX3 5) (ow_T_in 282 (by decide +kernel) (by decide +kernel)))
      refine ⟨cC, iS, fun q hq => ?_⟩
      cases hq
      exact e
    | 4 =>
      obtain ⟨cC, iS, e⟩ := u_known h ow_ok4.1 (h (Cond.instantiable RX4 3) (ow_T_in 226 (by decide +kernel) (by decide +kernel)))
      refine ⟨cC, iS, fun q hq => ?_⟩
      cases hq
      exact e
    | 5 =>
      obtain ⟨cC, iS, e⟩ := u_known h ow_ok5.1 (h (Cond.instantiable RX5 6) (ow_T_in 251 (by decide +kernel) (by decide +kernel)))
      refine ⟨cC, iS, fun q hq => ?_⟩
      cases hq
      exact e
    | 6 =>
      obtain ⟨cC, iS, e⟩ := u_known h ow_ok6.1 (h (Cond.instantiable RX6 17) (ow_T_in 39 (by decide +kernel) (by decide +kernel)))
      refine ⟨cC, iS, fun q hq => ?_⟩
      cases hq
      exact e
    | 7 =>
      obtain ⟨cC, iS, e⟩ := u_known h ow_ok7.1 (h (Cond.instantiable RX7 7) (ow_T_in 245 (by decide +kernel) (by decide +kernel)))
      refine ⟨cC, iS, fun q hq => ?_⟩
      cases hq
      exact e
    | 8 =>
      obtain ⟨cC, iS, e⟩ := u_known h ow_ok8.1 (h (Cond.instantiable RX8 3) (ow_T_in 45 (by decide +kernel) (by decide +kernel)))
      refine ⟨cC, iS, fun q hq => ?_⟩
      cases hq
      exact e
    | 9 =>
      obtain ⟨cC, iS, e⟩ := u_known h ow_ok8.1 (h (Cond.instantiable RX8 3) (ow_T_in 45 (by decide +kernel) (by decide +kernel)))
      refine ⟨cC, iS, fun q hq => ?_⟩
      cases hq
      exact e
    | 10 =>
      obtain ⟨cC, iS, e⟩ := u_known h ow_ok10.1 (h (Cond.instantiable RX10 8) (ow_T_in 31 (by decide +kernel) (by decide +kernel)))
      refine ⟨cC, iS, fun q hq => ?_⟩
      cases hq
      exact e
    | 11 =>
      obtain ⟨cC, iS, e⟩ := u_known h ow_ok11.1 (h (Cond.instantiable RJ0 4) (ow_T_in 709 (by decide +kernel) (by decide +kernel)))
      refine ⟨cC, iS, fun q hq => ?_⟩
      cases hq
      exact e
    | 12 =>
      obtain ⟨cC, iS, e⟩ := u_known h ow_ok12.1 (h (Cond.instantiable RJ4 4) (ow_T_in 328 (by decide +kernel) (by decide +kernel)))
      refine ⟨cC, iS, fun q hq => ?_⟩
      cases hq
      exact e
    | k + 13 =>
      refine ⟨0, fun _ => 0, fun q hq => ?_⟩
      have h9 := (List.getElem?_eq_some_iff.mp hq).1
      exact absurd h9 (Nat.not_lt.mpr (Nat.le_add_left 13 k))
  have h1 : ∃ f : Nat → ClassId, ∀ c, ∃ iS : Nat → Nat, ∀ q : vw_C, ow_cl[c]? = some q → u_Kn s q.1 q.2.1 q.2.2 (f c) iS := ⟨fun c => Classical.choose (hk c), fun c => Classical.choose_spec (hk c)⟩
  obtain ⟨f, hf⟩ := h1
  exact ⟨(f, fun c => Classical.choose (hf c)), fun c q hq => Classical.choose_spec (hf c) q hq, fun k q hq => by cases hq⟩
