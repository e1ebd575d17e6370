/-! THE START: the globals out of what the Statement gives (laid by wip/whole/mach/stagen.py) -/
def fw_F : List Cond := flatC (Jvm.Cond.and given_1 narrow_1)
def st_o (i : Nat) : String × Nat := match i with
  | 0 => ("LowWaterAuction$Parser", 86)
  | 1 => ("LowWaterAuction$Parser", 123)
  | 2 => ("LowWaterAuction$Parser", 132)
  | 3 => ("LowWaterAuction$Verb", 46)
  | 4 => ("LowWaterAuction$Verb", 52)
  | 5 => ("LowWaterAuction$Verb", 55)
  | 6 => ("LowWaterAuction$Verb", 58)
  | 7 => ("LowWaterAuction$Verb", 61)
  | 8 => ("LowWaterAuction$Verb", 64)
  | 9 => ("LowWaterAuction", 56)
  | _ => ("", 0)
def st_v (i : Nat) : Term := .field (.string (st_o i).1 (st_o i).2) "java/lang/String" "value" "[B"
def st_L (i : Nat) : List Cond := .exactly (.string (st_o i).1 (st_o i).2) "java/lang/String" :: .eq (.field (.string (st_o i).1 (st_o i).2) "java/lang/String" "coder" "B") (.int 0) :: .arrayOf (st_v i) .byte :: .eq (.length (st_v i)) (.int (Int32.ofNat (gl_len i))) :: (List.range (gl_len i)).map (fun j => .eq (.elem (st_v i) (.int (Int32.ofNat j))) (.int (nI (gl_ch i j))))
def vb_n (j : Nat) : String := match j with
  | 0 => "NOD"
  | 1 => "WAIT"
  | 2 => "SPLIT"
  | 3 => "PAY"
  | 4 => "WITHDRAW"
  | 5 => "BARREL"
  | _ => ""
def vb_t (j : Nat) : Term := .static "LowWaterAuction$Verb" (vb_n j) "LLowWaterAuction$Verb;"
def vb_L (j : Nat) : List Cond := [.exactly (vb_t j) "LowWaterAuction$Verb", .eq (.field (vb_t j) "java/lang/Enum" "ordinal" "I") (.int (nI j)), .eq (.field (vb_t j) "LowWaterAuction$Verb" "word" "Ljava/lang/String;") (.string (st_o (3 + j)).1 (st_o (3 + j)).2)]
def ar_L (C n d : String) (ty : FieldType) (N : Nat) (f : Nat → Term) : List Cond := .arrayOf (.static C n d) ty :: .eq (.length (.static C n d)) (.int (Int32.ofNat N)) :: (List.range N).map (fun j => .eq (.elem (.static C n d) (.int (Int32.ofNat j))) (f j))
theorem st_e0 : (fw_F.drop 538).take 10 = st_L 0 := by decide +kernel
theorem st_e1 : (fw_F.drop 548).take 9 = st_L 1 := by decide +kernel
theorem st_e2 : (fw_F.drop 557).take 10 = st_L 2 := by decide +kernel
theorem st_e3 : (fw_F.drop 949).take 7 = st_L 3 := by decide +kernel
theorem st_e4 : (fw_F.drop 956).take 8 = st_L 4 := by decide +kernel
theorem st_e5 : (fw_F.drop 964).take 9 = st_L 5 := by decide +kernel
theorem st_e6 : (fw_F.drop 973).take 7 = st_L 6 := by decide +kernel
theorem st_e7 : (fw_F.drop 980).take 12 = st_L 7 := by decide +kernel
theorem st_e8 : (fw_F.drop 938).take 10 = st_L 8 := by decide +kernel
theorem st_e9 : (fw_F.drop 416).take 122 = st_L 9 := by decide +kernel
theorem vb_e0 : (fw_F.drop 240).take 3 = vb_L 0 := by decide +kernel
theorem vb_e1 : (fw_F.drop 244).take 3 = vb_L 1 := by decide +kernel
theorem vb_e2 : (fw_F.drop 249).take 3 = vb_L 2 := by decide +kernel
theorem vb_e3 : (fw_F.drop 255).take 3 = vb_L 3 := by decide +kernel
theorem vb_e4 : (fw_F.drop 262).take 3 = vb_L 4 := by decide +kernel
theorem vb_e5 : (fw_F.drop 4).take 3 = vb_L 5 := by decide +kernel
theorem ar_e0 : (fw_F.drop 222).take 2 ++ (fw_F.drop 225).take 6 = ar_L "LowWaterAuction" "VERBS" "[LLowWaterAuction$Verb;" (.object "LowWaterAuction$Verb") 6 vb_t := by decide +kernel
theorem ar_e1 : (fw_F.drop 232).take 8 = ar_L "LowWaterAuction$1" "$SwitchMap$LowWaterAuction$Verb" "[I" .int 6 (fun j => .int (nI (gl_sm j))) := by decide +kernel
theorem ar_e2 : (fw_F.drop 13).take 102 = ar_L "java/lang/Integer" "DigitOnes" "[B" .byte 100 (fun j => .int (nI (48 + j % 10))) := by decide +kernel
theorem ar_e3 : (fw_F.drop 116).take 102 = ar_L "java/lang/Integer" "DigitTens" "[B" .byte 100 (fun j => .int (nI (48 + j / 10))) := by decide +kernel
section STA
variable {args : Array Value} {s : State} {A : Nat → Prop}
theorem fw_g (h : (Jvm.Cond.and given_1 narrow_1).before args s = true) {i : Nat} {w : Cond} (e : fw_F[i]? = some w) : w.before args s = true := flat_of_before _ h _ (List.mem_of_getElem? e)
theorem fw_d (h : (Jvm.Cond.and given_1 narrow_1).before args s = true) {b n : Nat} {L : List Cond} (e : (fw_F.drop b).take n = L) : ∀ w ∈ L, w.before args s = true := fun w hw => flat_of_before _ h w (show w ∈ fw_F from List.mem_of_mem_drop (i := b) (List.mem_of_mem_take (i := n) (by rw [e]; exact hw)))
theorem fw_d2 (h : (Jvm.Cond.and given_1 narrow_1).before args s = true) {b n b2 n2 : Nat} {L : List Cond} (e : (fw_F.drop b).take n ++ (fw_F.drop b2).take n2 = L) : ∀ w ∈ L, w.before args s = true := fun w hw => by
  rw [← e] at hw
  rcases List.mem_append.mp hw with hw | hw
  · exact fw_d h rfl w hw
  · exact fw_d h rfl w hw
/-- a string with its bytes -/
theorem sg_S {i : Nat} (hi : gl_len i < 2 ^ 31) (h : ∀ w ∈ st_L i, w.before args s = true) (hA : ∀ a : Nat, a < s.heap.size → ¬ A a) : ∃ q : Nat × Nat, (Term.string (st_o i).1 (st_o i).2).eval args s none [] s = some (.ref q.1) ∧ va_O "java/lang/String" q.1 A s s.heap ∧ va_OF "java/lang/String" "coder" "B" (.int 0) q.1 A s s.heap ∧ va_OF "java/lang/String" "value" "[B" (.ref q.2) q.1 A s s.heap ∧ va_T .byte q.2 (gl_len i) (fun j => .int (nI (gl_ch i j))) A s s.heap := by
  have h0 := h _ List.mem_cons_self
  have h1 := h _ (List.mem_cons_of_mem _ List.mem_cons_self)
  have h2 := h _ (List.mem_cons_of_mem _ (List.mem_cons_of_mem _ List.mem_cons_self))
  have h3 := h _ (List.mem_cons_of_mem _ (List.mem_cons_of_mem _ (List.mem_cons_of_mem _ List.mem_cons_self)))
  have h4 : ∀ j, j < gl_len i → (Cond.eq (.elem (st_v i) (.int (Int32.ofNat j))) (.int (nI (gl_ch i j)))).before args s = true := fun j hj => h _ (List.mem_cons_of_mem _ (List.mem_cons_of_mem _ (List.mem_cons_of_mem _ (List.mem_cons_of_mem _ (List.mem_map.mpr ⟨j, List.mem_range.mpr hj, rfl⟩)))))
  obtain ⟨a, c, cA, kA, q1, q2, q3, q4, q5, q6, -⟩ := Cond.exactly_spec (args := args) (first := s) (o := none) (s := s) (idx := []) (t := .string (st_o i).1 (st_o i).2) (cls := "java/lang/String") h0
  obtain ⟨t, ht, hT⟩ := va_Tof (f := fun j => .int (nI (gl_ch i j))) (A := A) hi h2 (va_eqt h3) (fun j hj => va_eqt (h4 j hj)) hA
  exact ⟨(a, t), q1, ⟨cA, q3, q5, by rw [q6]; exact q2, hA a (Array.getElem?_eq_some_iff.mp q3).1⟩, vk_OFof q1 (va_eqt h1) hA, vk_OFof q1 ht hA, hT⟩
/-- a constant of Verb -/
theorem sg_V {j k : Nat} (h : ∀ w ∈ vb_L j, w.before args s = true) (hk : (Term.string (st_o (3 + j)).1 (st_o (3 + j)).2).eval args s none [] s = some (.ref k)) (hA : ∀ a : Nat, a < s.heap.size → ¬ A a) : ∃ a : Nat, (vb_t j).eval args s none [] s = some (.ref a) ∧ va_O "LowWaterAuction$Verb" a A s s.heap ∧ va_OF "LowWaterAuction$Verb" "word" "Ljava/lang/String;" (.ref k) a A s s.heap ∧ va_OF "java/lang/Enum" "ordinal" "I" (.int (nI j)) a A s s.heap := by
  have h0 := h _ List.mem_cons_self
  have h1 := h _ (List.mem_cons_of_mem _ List.mem_cons_self)
  have h2 := h _ (List.mem_cons_of_mem _ (List.mem_cons_of_mem _ List.mem_cons_self))
  obtain ⟨a, c, cA, kA, q1, q2, q3, q4, q5, q6, -⟩ := Cond.exactly_spec (args := args) (first := s) (o := none) (s := s) (idx := []) (t := vb_t j) (cls := "LowWaterAuction$Verb") h0
  exact ⟨a, q1, ⟨cA, q3, q5, by rw [q6]; exact q2, hA a (Array.getElem?_eq_some_iff.mp q3).1⟩, vk_OFof q1 (va_eqv h2 hk) hA, vk_OFof q1 (va_eqt h1) hA⟩
/-- a static array -/
theorem sg_A {C n d : String} {ty : FieldType} {N : Nat} {f : Nat → Term} {v : Nat → Value} (hN : N < 2 ^ 31) (h : ∀ w ∈ ar_L C n d ty N f, w.before args s = true) (hf : ∀ j, j < N → (f j).eval args s none [] s = some (v j)) (hl : (Cond.laysStatic C n d).before args s = true) (hini : (Cond.initialized C).before args s = true) (hA : ∀ a : Nat, a < s.heap.size → ¬ A a) : ∃ t : Nat, va_Z C n d (.ref t) A s s.heap ∧ va_T ty t N v A s s.heap := by
  have h0 := h _ List.mem_cons_self
  have h1 := h _ (List.mem_cons_of_mem _ List.mem_cons_self)
  have h2 : ∀ j, j < N → (Cond.eq (.elem (.static C n d) (.int (Int32.ofNat j))) (f j)).before args s = true := fun j hj => h _ (List.mem_cons_of_mem _ (List.mem_cons_of_mem _ (List.mem_map.mpr ⟨j, List.mem_range.mpr hj, rfl⟩)))
  obtain ⟨t, ht, hT⟩ := va_Tof (f := v) (A := A) hN h0 (va_eqt h1) (fun j hj => va_eqv (h2 j hj) (hf j hj)) hA
  exact ⟨t, va_Zof hl hini ht hA, hT⟩
/-- a text's address alone -/
theorem sg_T {own : String} {k : Nat} (h0 : (Cond.exactly (.string own k) "java/lang/String").before args s = true) : ∃ a : Nat, (Term.string own k).eval args s none [] s = some (.ref a) := by
  obtain ⟨a, c, cA, kA, q1, -⟩ := Cond.exactly_spec (args := args) (first := s) (o := none) (s := s) (idx := []) (t := .string own k) (cls := "java/lang/String") h0
  exact ⟨a, q1⟩
def sg_Z (qs : Nat → Nat × Nat) (r0 r1 r2 r3 : Nat) (vs ts : Nat → Nat) : Nat → Nat := fun n => if n < 10 then (qs n).1 else if n < 30 then (qs (n - 20)).2 else if n = 30 then r0 else if n = 31 then r1 else if n = 32 then r2 else if n = 33 then r3 else if n < 50 then vs (n - 40) else ts (n - 50)
def tx_o (i : Nat) : String × Nat := match i with
  | 0 => ("LowWaterAuction", 74)
  | 1 => ("LowWaterAuction", 361)
  | 2 => ("LowWaterAuction", 94)
  | 3 => ("LowWaterAuction", 114)
  | 4 => ("LowWaterAuction", 359)
  | 5 => ("LowWaterAuction", 363)
  | 6 => ("LowWaterAuction", 354)
  | 7 => ("LowWaterAuction", 217)
  | 8 => ("LowWaterAuction", 223)
  | 9 => ("LowWaterAuction", 271)
  | _ => ("", 0)
set_option maxRecDepth 100000 in
set_option maxHeartbeats 1000000 in
theorem st_G (h : (Jvm.Cond.and given_1 narrow_1).before args s = true) (ht : ∀ w ∈ tables_1, w.before args s = true) (hA : ∀ a : Nat, a < s.heap.size → ¬ A a) : ∃ Z : Nat → Nat, gl_G Z A s s.heap := by
  have hT : ∀ (i : Nat) (w : Cond), tables_1[i]? = some w → w.before args s = true := fun i w e => ht w (List.mem_of_getElem? e)
  have hs : ∀ i, i < 10 → ∀ w ∈ st_L i, w.before args s = true := fun i hi => match i, hi with
    | 0, _ => fw_d h st_e0
    | 1, _ => fw_d h st_e1
    | 2, _ => fw_d h st_e2
    | 3, _ => fw_d h st_e3
    | 4, _ => fw_d h st_e4
    | 5, _ => fw_d h st_e5
    | 6, _ => fw_d h st_e6
    | 7, _ => fw_d h st_e7
    | 8, _ => fw_d h st_e8
    | 9, _ => fw_d h st_e9
    | n + 10, h9 => absurd h9 (by omega)
  have hq : ∀ i, ∃ q : Nat × Nat, i < 10 → (Term.string (st_o i).1 (st_o i).2).eval args s none [] s = some (.ref q.1) ∧ va_O "java/lang/String" q.1 A s s.heap ∧ va_OF "java/lang/String" "coder" "B" (.int 0) q.1 A s s.heap ∧ va_OF "java/lang/String" "value" "[B" (.ref q.2) q.1 A s s.heap ∧ va_T .byte q.2 (gl_len i) (fun j => .int (nI (gl_ch i j))) A s s.heap := fun i => by
    by_cases hi : i < 10
    · have hl : gl_len i < 2 ^ 31 := (show ∀ i, i < 10 → gl_len i < 2 ^ 31 by decide +kernel) i hi
      obtain ⟨q, hq⟩ := sg_S (A := A) hl (hs i hi) hA
      exact ⟨q, fun _ => hq⟩
    · exact ⟨(0, 0), fun h9 => absurd h9 hi⟩
  obtain ⟨qs, hqs⟩ := Classical.axiomOfChoice hq
  have hvl : ∀ j, j < 6 → ∀ w ∈ vb_L j, w.before args s = true := fun j hj => match j, hj with
    | 0, _ => fw_d h vb_e0
    | 1, _ => fw_d h vb_e1
    | 2, _ => fw_d h vb_e2
    | 3, _ => fw_d h vb_e3
    | 4, _ => fw_d h vb_e4
    | 5, _ => fw_d h vb_e5
    | n + 6, h9 => absurd h9 (by omega)
  have hv : ∀ j, ∃ a : Nat, j < 6 → (vb_t j).eval args s none [] s = some (.ref a) ∧ va_O "LowWaterAuction$Verb" a A s s.heap ∧ va_OF "LowWaterAuction$Verb" "word" "Ljava/lang/String;" (.ref (qs (3 + j)).1) a A s s.heap ∧ va_OF "java/lang/Enum" "ordinal" "I" (.int (nI j)) a A s s.heap := fun j => by
    by_cases hj : j < 6
    · obtain ⟨a, ha⟩ := sg_V (A := A) (hvl j hj) (hqs (3 + j) (by omega)).1 hA
      exact ⟨a, fun _ => ha⟩
    · exact ⟨0, fun h9 => absurd h9 hj⟩
  obtain ⟨vs, hvs⟩ := Classical.axiomOfChoice hv
  have ht0 : ∀ i, ∃ a : Nat, i < 10 → (Term.string (tx_o i).1 (tx_o i).2).eval args s none [] s = some (.ref a) := fun i => match i with
    | 0 => by
      obtain ⟨a, ha⟩ := sg_T (own := "LowWaterAuction") (k := 74) (fw_g h (i := 670) (by decide +kernel))
      exact ⟨a, fun _ => ha⟩
    | 1 => by
      obtain ⟨a, ha⟩ := sg_T (own := "LowWaterAuction") (k := 361) (fw_g h (i := 719) (by decide +kernel))
      exact ⟨a, fun _ => ha⟩
    | 2 => by
      obtain ⟨a, ha⟩ := sg_T (own := "LowWaterAuction") (k := 94) (fw_g h (i := 754) (by decide +kernel))
      exact ⟨a, fun _ => ha⟩
    | 3 => by
      obtain ⟨a, ha⟩ := sg_T (own := "LowWaterAuction") (k := 114) (fw_g h (i := 780) (by decide +kernel))
      exact ⟨a, fun _ => ha⟩
    | 4 => by
      obtain ⟨a, ha⟩ := sg_T (own := "LowWaterAuction") (k := 359) (fw_g h (i := 807) (by decide +kernel))
      exact ⟨a, fun _ => ha⟩
    | 5 => by
      obtain ⟨a, ha⟩ := sg_T (own := "LowWaterAuction") (k := 363) (fw_g h (i := 824) (by decide +kernel))
      exact ⟨a, fun _ => ha⟩
    | 6 => by
      obtain ⟨a, ha⟩ := sg_T (own := "LowWaterAuction") (k := 354) (fw_g h (i := 857) (by decide +kernel))
      exact ⟨a, fun _ => ha⟩
    | 7 => by
      obtain ⟨a, ha⟩ := sg_T (own := "LowWaterAuction") (k := 217) (fw_g h (i := 875) (by decide +kernel))
      exact ⟨a, fun _ => ha⟩
    | 8 => by
      obtain ⟨a, ha⟩ := sg_T (own := "LowWaterAuction") (k := 223) (fw_g h (i := 902) (by decide +kernel))
      exact ⟨a, fun _ => ha⟩
    | 9 => by
      obtain ⟨a, ha⟩ := sg_T (own := "LowWaterAuction") (k := 271) (fw_g h (i := 923) (by decide +kernel))
      exact ⟨a, fun _ => ha⟩
    | n + 10 => ⟨0, fun h9 => absurd h9 (by omega)⟩
  obtain ⟨ts, hts⟩ := Classical.axiomOfChoice ht0
  obtain ⟨r0, z0, a0⟩ := sg_A (A := A) (v := fun j => .ref (vs j)) (by decide) (fw_d2 h ar_e0) (fun j hj => (hvs j hj).1) (hT 1149 _ (by decide +kernel)) (hT 1 _ (by decide +kernel)) hA
  obtain ⟨r1, z1, a1⟩ := sg_A (A := A) (v := fun j => .int (nI (gl_sm j))) (by decide) (fw_d h ar_e1) (fun j hj => rfl) (hT 1155 _ (by decide +kernel)) (hT 26 _ (by decide +kernel)) hA
  obtain ⟨r2, z2, a2⟩ := sg_A (A := A) (v := fun j => .int (nI (48 + j % 10))) (by decide) (fw_d h ar_e2) (fun j hj => rfl) (hT 837 _ (by decide +kernel)) (hT 33 _ (by decide +kernel)) hA
  obtain ⟨r3, z3, a3⟩ := sg_A (A := A) (v := fun j => .int (nI (48 + j / 10))) (by decide) (fw_d h ar_e3) (fun j hj => rfl) (hT 839 _ (by decide +kernel)) (hT 33 _ (by decide +kernel)) hA
  refine ⟨sg_Z qs r0 r1 r2 r3 vs ts, ?_⟩
  have eq : ∀ i, i < 10 → sg_Z qs r0 r1 r2 r3 vs ts i = (qs i).1 := fun i hi => by unfold sg_Z; rw [if_pos hi]
  have eb : ∀ i, i < 10 → sg_Z qs r0 r1 r2 r3 vs ts (20 + i) = (qs i).2 := fun i hi => by unfold sg_Z; rw [if_neg (by omega), if_pos (by omega), Nat.add_sub_cancel_left]
  have ev : ∀ j, j < 6 → sg_Z qs r0 r1 r2 r3 vs ts (40 + j) = vs j := fun j hj => by unfold sg_Z; rw [if_neg (by omega), if_neg (by omega), if_neg (by omega), if_neg (by omega), if_neg (by omega), if_neg (by omega), if_pos (by omega), Nat.add_sub_cancel_left]
  have et : ∀ j, sg_Z qs r0 r1 r2 r3 vs ts (50 + j) = ts j := fun j => by unfold sg_Z; rw [if_neg (by omega), if_neg (by omega), if_neg (by omega), if_neg (by omega), if_neg (by omega), if_neg (by omega), if_neg (by omega), Nat.add_sub_cancel_left]
  have e30 : sg_Z qs r0 r1 r2 r3 vs ts 30 = r0 := rfl
  have e31 : sg_Z qs r0 r1 r2 r3 vs ts 31 = r1 := rfl
  have e32 : sg_Z qs r0 r1 r2 r3 vs ts 32 = r2 := rfl
  have e33 : sg_Z qs r0 r1 r2 r3 vs ts 33 = r3 := rfl
  generalize sg_Z qs r0 r1 r2 r3 vs ts = Z at eq eb ev et e30 e31 e32 e33 ⊢
  have e45 : Z 45 = vs 5 := ev 5 (by decide)
  refine ⟨fun i hi => ?_, fun j hj => ?_, ?_, va_Zof (hT 355 _ (by decide +kernel)) (hT 14 _ (by decide +kernel)) (va_eqt (fw_g h (i := 7) (by decide +kernel))) hA, va_Zqof (hT 407 _ (by decide +kernel)) (hT 17 _ (by decide +kernel)) (fw_g h (i := 8) (by decide +kernel)) hA, vx_Zqof (hT 911 _ (by decide +kernel)) (hT 20 _ (by decide +kernel)) (fw_g h (i := 218) (by decide +kernel)) hA, vx_Zqof (hT 913 _ (by decide +kernel)) (hT 20 _ (by decide +kernel)) (fw_g h (i := 219) (by decide +kernel)) hA, ?_, ?_, ?_, ?_, ?_, ?_, ?_, ⟨va_Nw.of rfl (hT 1148 _ (by decide +kernel)), ?_⟩, ?_, ?_⟩
  · obtain ⟨p1, p2, p3, p4, p5⟩ := hqs i hi
    unfold gl_S
    rw [eq i hi, eb i hi]
    exact ⟨p2, p3, p4, p5⟩
  · obtain ⟨p1, p2, p3, p4⟩ := hvs j hj
    unfold gl_V
    rw [ev j hj, eq (3 + j) (by omega)]
    exact ⟨p2, p3, p4⟩
  · exact (List.forall_mem_cons.mpr ⟨(by show va_Z _ _ _ (.ref (Z 30)) _ _ _; rw [e30]; exact z0), (List.forall_mem_cons.mpr ⟨(by show va_Z _ _ _ (.ref (Z 31)) _ _ _; rw [e31]; exact z1), (List.forall_mem_cons.mpr ⟨(by show va_Z _ _ _ (.ref (Z 45)) _ _ _; rw [e45]; exact va_Zof (hT 294 _ (by decide +kernel)) (hT 11 _ (by decide +kernel)) (hvs 5 (by decide)).1 hA), (List.forall_mem_cons.mpr ⟨(by show va_Z _ _ _ (.ref (Z 32)) _ _ _; rw [e32]; exact z2), (List.forall_mem_cons.mpr ⟨(by show va_Z _ _ _ (.ref (Z 33)) _ _ _; rw [e33]; exact z3), (fun _ h9 => nomatch h9)⟩)⟩)⟩)⟩)⟩)
  · rw [e30]
    have e : va_T (.object "LowWaterAuction$Verb") r0 6 (fun j => .ref (Z (40 + j))) A s s.heap := by
      obtain ⟨cell, c1, c2, c3, c4, c5, c6, c7⟩ := a0
      exact ⟨cell, c1, c2, c3, c4, c5, fun j hj => by rw [c6 j hj]; show some (Value.ref (vs j)) = some (Value.ref (Z (40 + j))); rw [ev j hj], c7⟩
    exact e
  · rw [e31]; exact a1
  · rw [e32]; exact a2
  · rw [e33]; exact a3
  · exact (List.forall_mem_cons.mpr ⟨(by show vk_R _ _ _ (Z 0) _; rw [eq 0 (by decide)]; exact vk_R.of (hT 470 _ (by decide +kernel)) (hqs 0 (by decide)).1), (List.forall_mem_cons.mpr ⟨(by show vk_R _ _ _ (Z 1) _; rw [eq 1 (by decide)]; exact vk_R.of (hT 504 _ (by decide +kernel)) (hqs 1 (by decide)).1), (List.forall_mem_cons.mpr ⟨(by show vk_R _ _ _ (Z 2) _; rw [eq 2 (by decide)]; exact vk_R.of (hT 517 _ (by decide +kernel)) (hqs 2 (by decide)).1), (List.forall_mem_cons.mpr ⟨(by show vk_R _ _ _ (Z 9) _; rw [eq 9 (by decide)]; exact vk_R.of (hT 378 _ (by decide +kernel)) (hqs 9 (by decide)).1), (List.forall_mem_cons.mpr ⟨(by show vk_R _ _ _ (Z 50) _; rw [show Z 50 = ts 0 from et 0]; exact vk_R.of (hT 1076 _ (by decide +kernel)) (hts 0 (by decide))), (List.forall_mem_cons.mpr ⟨(by show vk_R _ _ _ (Z 51) _; rw [show Z 51 = ts 1 from et 1]; exact vk_R.of (hT 1099 _ (by decide +kernel)) (hts 1 (by decide))), (List.forall_mem_cons.mpr ⟨(by show vk_R _ _ _ (Z 52) _; rw [show Z 52 = ts 2 from et 2]; exact vk_R.of (hT 1108 _ (by decide +kernel)) (hts 2 (by decide))), (List.forall_mem_cons.mpr ⟨(by show vk_R _ _ _ (Z 53) _; rw [show Z 53 = ts 3 from et 3]; exact vk_R.of (hT 1170 _ (by decide +kernel)) (hts 3 (by decide))), (List.forall_mem_cons.mpr ⟨(by show vk_R _ _ _ (Z 54) _; rw [show Z 54 = ts 4 from et 4]; exact vk_R.of (hT 1273 _ (by decide +kernel)) (hts 4 (by decide))), (List.forall_mem_cons.mpr ⟨(by show vk_R _ _ _ (Z 55) _; rw [show Z 55 = ts 5 from et 5]; exact vk_R.of (hT 1281 _ (by decide +kernel)) (hts 5 (by decide))), (List.forall_mem_cons.mpr ⟨(by show vk_R _ _ _ (Z 56) _; rw [show Z 56 = ts 6 from et 6]; exact vk_R.of (hT 1315 _ (by decide +kernel)) (hts 6 (by decide))), (List.forall_mem_cons.mpr ⟨(by show vk_R _ _ _ (Z 57) _; rw [show Z 57 = ts 7 from et 7]; exact vk_R.of (hT 1373 _ (by decide +kernel)) (hts 7 (by decide))), (List.forall_mem_cons.mpr ⟨(by show vk_R _ _ _ (Z 58) _; rw [show Z 58 = ts 8 from et 8]; exact vk_R.of (hT 1398 _ (by decide +kernel)) (hts 8 (by decide))), (List.forall_mem_cons.mpr ⟨(by show vk_R _ _ _ (Z 59) _; rw [show Z 59 = ts 9 from et 9]; exact vk_R.of (hT 1417 _ (by decide +kernel)) (hts 9 (by decide))), (fun _ h9 => nomatch h9)⟩)⟩)⟩)⟩)⟩)⟩)⟩)⟩)⟩)⟩)⟩)⟩)⟩)⟩)
  · exact (List.forall_mem_cons.mpr ⟨(va_Nw.of rfl (hT 886 _ (by decide +kernel))), (List.forall_mem_cons.mpr ⟨(va_Nw.of rfl (hT 1069 _ (by decide +kernel))), (List.forall_mem_cons.mpr ⟨(va_Nw.of rfl (hT 1266 _ (by decide +kernel))), (List.forall_mem_cons.mpr ⟨(va_Nw.of rfl (hT 1366 _ (by decide +kernel))), (fun _ h9 => nomatch h9)⟩)⟩)⟩)⟩)
  · exact (List.forall_mem_cons.mpr ⟨(va_Nc.of (fw_g h (i := 318) (by decide +kernel))), (List.forall_mem_cons.mpr ⟨(va_Nc.of (fw_g h (i := 300) (by decide +kernel))), (List.forall_mem_cons.mpr ⟨(va_Nc.of (fw_g h (i := 319) (by decide +kernel))), (List.forall_mem_cons.mpr ⟨(va_Nc.of (fw_g h (i := 302) (by decide +kernel))), (fun _ h9 => nomatch h9)⟩)⟩)⟩)⟩)
  · exact (List.forall_mem_cons.mpr ⟨(va_AO.of (hT 70 _ (by decide +kernel))), (List.forall_mem_cons.mpr ⟨(va_AO.of (hT 72 _ (by decide +kernel))), (List.forall_mem_cons.mpr ⟨(va_AO.of (hT 237 _ (by decide +kernel))), (List.forall_mem_cons.mpr ⟨(va_AO.of (hT 287 _ (by decide +kernel))), (fun _ h9 => nomatch h9)⟩)⟩)⟩)⟩)
  · exact (List.forall_mem_cons.mpr ⟨(va_Nw.of rfl (hT 51 _ (by decide +kernel))), (List.forall_mem_cons.mpr ⟨(va_Nw.of rfl (hT 74 _ (by decide +kernel))), (List.forall_mem_cons.mpr ⟨(va_Nw.of rfl (hT 104 _ (by decide +kernel))), (List.forall_mem_cons.mpr ⟨(va_Nw.of rfl (hT 258 _ (by decide +kernel))), (List.forall_mem_cons.mpr ⟨(va_Nw.of rfl (hT 289 _ (by decide +kernel))), (fun _ h9 => nomatch h9)⟩)⟩)⟩)⟩)⟩)
  · exact (List.forall_mem_cons.mpr ⟨(va_Nw.of rfl (hT 888 _ (by decide +kernel))), (List.forall_mem_cons.mpr ⟨(va_Nw.of rfl (hT 890 _ (by decide +kernel))), (List.forall_mem_cons.mpr ⟨(va_Nw.of rfl (hT 892 _ (by decide +kernel))), (fun _ h9 => nomatch h9)⟩)⟩)⟩)
end STA
