section
/-! THE REFERENCE: its cells; its methods, leaves first (laid by wip/p67/pure.py out of whole's parts) -/
def md_k (m : Nat) : Nat → Option (Option Value) := fun k => match k with
  | 0 => some (some (.ref (m + 1)))
  | 3 => some (some (.ref (m + 2)))
  | 4 => some (some (.ref (m + 3)))
  | 12 => some (some (.ref (m + 4)))
  | 14 => some (some (.ref (m + 5)))
  | 16 => some (some (.ref (m + 6)))
  | 19 => some (some (.ref (m + 7)))
  | _ => none
def ow_n : Nat → Option (Option Value) := fun _ => none
def md_S (S : Nat → Option ow_Sh) (m : Nat) : Prop := S m = some (.inl (11, md_k m)) ∧ S (m + 1) = some (.inr (.int, 4810, ow_n)) ∧ S (m + 2) = some (.inr (.boolean, 2, ow_n)) ∧ S (m + 3) = some (.inr (.byte, 500, ow_n)) ∧ S (m + 4) = some (.inr (.int, 11, ow_n)) ∧ S (m + 5) = some (.inr (.int, 260, ow_n)) ∧ S (m + 6) = some (.inr (.byte, 200, ow_n)) ∧ S (m + 7) = some (.inr (.char, 64, ow_n))
theorem bz_neg {b : Bool} (h : b = false) : ¬ b = true := by rw [h]; decide
def M_throwsIf (m : Nat) (b : Bool) (w : Int32) (I : ow_I) : Bool × ow_I :=
  if b then lt (ow_u I m 18 w) (fun (I1 : ow_I) => (b, I1)) else (b, I)
def M_in (v : Int32) (lo : Int32) (hi : Int32) (I : ow_I) : Bool :=
  if v < lo then false else if hi < v then false else true
def M_of (m : Nat) (b : Nat) (w : Nat) (I : ow_I) : Int32 :=
  I (m + 1) (36 + (5 * b) + w)
def M_put (m : Nat) (b : Nat) (w : Nat) (x : Int32) (I : ow_I) : ow_I :=
  lt (ow_u I (m + 1) (36 + (5 * b) + w) x) (fun (I1 : ow_I) => I1)
def M_ofBarrel (m : Nat) (b : Nat) (w : Nat) (I : ow_I) : Int32 :=
  I (m + 1) (66 + (15 * b) + w)
def M_putBarrel (m : Nat) (b : Nat) (w : Nat) (x : Int32) (I : ow_I) : ow_I :=
  lt (ow_u I (m + 1) (66 + (15 * b) + w) x) (fun (I1 : ow_I) => I1)
def M_lengthOf (m : Nat) (b : Nat) (e : Nat) (I : ow_I) : Int32 :=
  M_ofBarrel m b (1 + e) I
def M_copyBlock_L2 (m : Nat) (f : Nat) (t : Nat) : Nat → ow_I → Nat → ow_I
  | 0, I, _ => I
  | n + 1, I, i => if 370 ≤ i then I else lt (ow_u I (m + 1) (370 * t + i) (I (m + 1) (370 * f + i))) (fun (I1 : ow_I) => M_copyBlock_L2 m f t n I1 (i + 1))
def M_copyBlock (m : Nat) (f : Nat) (t : Nat) (I : ow_I) : ow_I :=
  M_copyBlock_L2 m f t 371 I 0
def M_isOpenIn (m : Nat) (n : Int32) (I : ow_I) : Bool :=
  if I (m + 1) 1 ≤ n - n / (I (m + 1) 0) * (I (m + 1) 0) then false else true
end
