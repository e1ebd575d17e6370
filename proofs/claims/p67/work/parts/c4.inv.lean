/-! WHAT HOLDS BETWEEN TWO CALLS OF THE LAW: the class at x, its numbers at q -/
/-- how many of the first n barrels are sold to y; what was paid for those that are sold -/
def cB (a : Nat) (I : ow_I) (y : Nat) : Nat → Nat
  | 0 => 0
  | n + 1 => if I (a + 11 + 2 * n) 7 = nI 2 ∧ I (a + 11 + 2 * n) 8 = nI y then cB a I y n + 1 else cB a I y n
def cP (a : Nat) (I : ow_I) : Nat → Int32
  | 0 => 0
  | n + 1 => if I (a + 11 + 2 * n) 7 = nI 2 then cP a I n + I (a + 11 + 2 * n) 9 else cP a I n
/-- the ledger -/
def lg (P a : Nat) (I : ow_I) : Prop :=
  (∀ b, b < tn (I a 10) → I (a + 11 + 2 * b) 7 = nI 2 → 0 ≤ I (a + 11 + 2 * b) 8 ∧ tn (I (a + 11 + 2 * b) 8) < tn (I a 8)) ∧
  (∀ b, b < tn (I a 10) → ¬ I (a + 11 + 2 * b) 7 = nI 2 → I (a + 11 + 2 * b) 8 = -1 ∧ I (a + 11 + 2 * b) 9 = -1) ∧
  (∀ y, y < tn (I a 8) → I (a + 5 + y) 3 = nI (cB a I y (tn (I a 10)))) ∧
  I a 4 = cP a I (tn (I a 10)) ∧
  I a 6 - K_coinsInPurses a I - I a 4 - I a 5 = 0 ∧
  (∀ b, b < tn (I a 10) → I (a + 11 + 2 * b) 7 = 0 ∨ I (a + 11 + 2 * b) 7 = nI 1 → ∃ r : Nat, I (a + 11 + 2 * b) 6 = nI r ∧ r ≤ 2) ∧
  (∀ y, y < tn (I a 8) → ∃ c : Nat, I (a + 5 + y) 0 = nI c ∧ c ≤ P)
/-- a market of the class that a state of the reference pictures -/
def mkt (B a : Nat) (I : ow_I) : Prop := ∃ f : Nat → Int32, rl a I f ∧ md_V f ∧ iv B f
/-- the numbers told at the start -/
def mq (x q : Nat) (I : ow_I) : Prop := I q 0 = I (x + 1 + 1) 0 ∧ I q 1 = I (x + 1 + 1) 1 ∧ I q 2 = I (x + 1) 1 ∧ I q 3 = I (x + 1) 3
def LI (B x q : Nat) (I : ow_I) : Prop := au_V x I ∧ mq x q I ∧ mkt B (x + 1) I ∧ lg (1000 + 40 * B) (x + 1) I ∧ x + 666 ≤ q ∧ B ≤ 100000 ∧ (0 ≤ I (x + 1) 13 → T_isLow (x + 1 + 1) I = true)
section LIF
variable {B x q : Nat} {I : ow_I}
theorem i_ge2 {x : Int32} (h : ¬ x < 0) : 0 ≤ x := Int32.not_lt.mp h
theorem mk_open {a : Nat} (h : mkt B a I) : I a 13 = -1 ∨ (0 ≤ I a 13 ∧ tn (I a 13) < tn (I a 10)) := by
  obtain ⟨f, hr, hv, hi⟩ := h
  rw [hr.2.2.2.1.1, hr.2.2.1.2.1]
  exact mV8 hv
theorem mk_lead {a : Nat} (h : mkt B a I) : I a 15 = -1 ∨ (0 ≤ I a 15 ∧ tn (I a 15) < tn (I a 8) ∧ 0 ≤ I a 13) := by
  obtain ⟨f, hr, hv, hi⟩ := h
  rw [hr.2.2.2.1.1, hr.2.2.2.1.2.1, hr.2.2.1.1]
  exact mV10 hv
theorem mk_queue {a : Nat} (h : mkt B a I) {i : Nat} (hi : i < tn (I a 12)) : 0 ≤ I (a + 4) i ∧ tn (I (a + 4) i) < tn (I a 10) ∧ I (a + 11 + 2 * tn (I (a + 4) i)) 7 = 0 := by
  obtain ⟨f, hr, hv, -⟩ := h
  rw [hr.2.2.1.2.2] at hi
  have e := hr.2.2.2.2.2.1 i hi
  obtain ⟨q1, q2, q3⟩ := hv.2.2.2.2.2.2.1 i hi
  rw [e, hr.2.2.1.2.1]
  refine ⟨q1, q2, ?_⟩
  rw [(hr.2.2.2.2.2.2 _ q2).2.2.2.2.1]
  exact q3
theorem mk_nbuy {a : Nat} (h : mkt B a I) : 0 ≤ I a 8 ∧ 1 ≤ tn (I a 8) ∧ tn (I a 8) ≤ 6 := by
  obtain ⟨f, hr, hv, -⟩ := h
  rw [hr.2.2.1.1]
  exact hv.2.1
theorem mk_nbar {a : Nat} (h : mkt B a I) : 0 ≤ I a 10 ∧ tn (I a 10) ≤ 20 := by
  obtain ⟨f, hr, hv, -⟩ := h
  rw [hr.2.2.1.2.1]
  exact hv.2.2.1
theorem mk_per {a : Nat} (h : mkt B a I) : ¬ I (a + 1) 0 = 0 := by
  obtain ⟨f, hr, hv, -⟩ := h
  rw [hr.1.1]
  exact hv.1
theorem li_X (h : LI B x q I) : au_V x I := h.1
theorem li_p (h : LI B x q I) : ¬ I q 0 = 0 := by
  rw [h.2.1.1]
  exact mk_per h.2.2.1
theorem li_o (h : LI B x q I) (hz : ¬ I (x + 1) 13 < 0) : 0 ≤ I (x + 1) 13 ∧ tn (I (x + 1) 13) < tn (I (x + 1) 10) := by
  rcases mk_open h.2.2.1 with e | e
  · rw [e] at hz; exact absurd (by decide) hz
  · exact e
theorem li_o' (h : LI B x q I) (hz : 0 ≤ I (x + 1) 13) : 0 ≤ I (x + 1) 13 ∧ tn (I (x + 1) 13) < tn (I (x + 1) 10) := li_o h (Int32.not_lt.mpr hz)
theorem li_l (h : LI B x q I) (hz : ¬ I (x + 1) 15 < 0) : 0 ≤ I (x + 1) 15 ∧ tn (I (x + 1) 15) < tn (I (x + 1) 8) := by
  rcases mk_lead h.2.2.1 with e | e
  · rw [e] at hz; exact absurd (by decide) hz
  · exact ⟨e.1, e.2.1⟩
theorem li_l' (h : LI B x q I) (hz : 0 ≤ I (x + 1) 15) : 0 ≤ I (x + 1) 15 ∧ tn (I (x + 1) 15) < tn (I (x + 1) 8) := li_l h (Int32.not_lt.mpr hz)
theorem li_n8 (h : LI B x q I) : 0 ≤ I (x + 1) 8 := (mk_nbuy h.2.2.1).1
theorem li_n0 (h : LI B x q I) : ¬ I (x + 1) 8 = 0 := by
  have h1 := mk_nbuy h.2.2.1
  intro e
  rw [e] at h1
  exact absurd h1.2.1 (by decide)
/-- the buyer that is asked i-th -/
theorem li_by (h : LI B x q I) {i : Nat} {b : Int32} (hi : i < tn (I (x + 1) 8)) (hb : b = if 0 ≤ I (x + 1) 15 then (I (x + 1) 15 + nI 1 + nI i) - (I (x + 1) 15 + nI 1 + nI i) / I (x + 1) 8 * I (x + 1) 8 else nI i) : 0 ≤ b ∧ tn b < tn (I (x + 1) 8) := by
  have h1 := mk_nbuy h.2.2.1
  subst hb
  split
  · rename_i hl
    have h2 := li_l' h hl
    have e8 := (nI_tn h1.1).symm
    have e15 := (nI_tn h2.1).symm
    generalize tn (I (x + 1) 8) = n at *
    generalize tn (I (x + 1) 15) = l at *
    rw [e8, e15, nI_add, nI_add, pk_rem (by omega) (by omega) (by omega)]
    have h3 := Nat.mod_lt (l + 1 + i) (show 0 < n by omega)
    rw [tn_nI (by omega)]
    exact ⟨nI_ge0 (by omega), h3⟩
  · rw [tn_nI (by omega)]
    exact ⟨nI_ge0 (by omega), hi⟩
theorem li_by' (h : LI B x q I) {i : Nat} {b : Int32} (hi : i < tn (I (x + 1) 8)) (hb : b = if I (x + 1) 15 < 0 then nI i else (I (x + 1) 15 + nI 1 + nI i) - (I (x + 1) 15 + nI 1 + nI i) / I (x + 1) 8 * I (x + 1) 8) : 0 ≤ b ∧ tn b < tn (I (x + 1) 8) := by
  refine li_by h hi (hb.trans ?_)
  by_cases e : 0 ≤ I (x + 1) 15
  · rw [if_pos e, if_neg (Int32.not_lt.mpr e)]
  · rw [if_neg e, if_pos (Int32.not_le.mp e)]
end LIF
theorem lt_e {r : Nat → Int32} {i : Nat} (h0 : 0 ≤ r 1) (hi : i < tn (r 1)) : nI i < r 1 := by
  rw [← nI_tn h0]
  exact nI_lt hi (tn_lt _)
/-- a contract whose end may stand further on -/
def ox_z (S : Nat → Option ow_Sh) (V : Nat → Nat → Value) (z : Nat) (r : Option Value) (I : ow_I) : Nat → Option Value → ow_H → Prop := fun c r' h1 => c = 0 ∧ r' = r ∧ ∃ z', z ≤ z' ∧ h1 = (S, I, V, z')
theorem ow_Cx.ofz {Z : Nat → Nat} {y : MethodName} {cy : ByteArray} {n : Nat} {ret : Option FieldType} {k mc ms : Nat} {as : List Value} {h : ow_H} {S : Nat → Option ow_Sh} {V : Nat → Nat → Value} {z : Nat} {r : Option Value} {I : ow_I} (hy : plainName y.cls = true) (hlen : (lg_sl as).length ≤ n)
    (body : ∀ (X : ow_X) (K : Nat → Option Value → ow_H → Prop), ow_E X y.cls cy n (ow_rm k mc ms) → og_G X Z → ox_F X h K mc ms ret y.name → (∀ z', z ≤ z' → K 0 r (S, I, V, z')) → ow_W X 0 0 h 0 (lv_args 0 as) []) : ow_Cx Z y cy n ret k mc ms as h (ox_z S V z r I) :=
  ow_Cx.of hy hlen (fun X E G F => body X _ E G F fun z' hz => ⟨rfl, rfl, z', hz, rfl⟩)
/-- what is drawn -/
def pkf (Z : Nat → Nat) (k n : Nat) : Nat := if Z 35 = 0 then k % n else tn ((nI (Z (100 + k % Z 35))) >>> (nI (k / Z 35 % 9 * 3) &&& 31) &&& nI 4095) % n
theorem pkf_lt (Z : Nat → Nat) (k : Nat) {n : Nat} (h : 0 < n) : pkf Z k n < n := by
  unfold pkf
  split <;> exact Nat.mod_lt _ h
