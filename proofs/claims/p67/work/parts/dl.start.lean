/-! THE START: the globals out of what the Statement gives (laid by wip/whole/mach/stagen.py) -/
def fw_F : List Cond := flatC (Jvm.Cond.and given_1 narrow_1)
def st_o (i : Nat) : String × Nat := match i with
  | 0 => ("LowWaterAuction$Parser", 86)
  | 1 => ("LowWaterAuction$Parser", 123)
  | 2 => ("LowWaterAuction$Parser", 132)
  | 3 => ("LowWaterAuctionLaw", 36)
  | 4 => ("LowWaterAuctionLaw", 44)
  | 5 => ("LowWaterAuctionLaw", 46)
  | 6 => ("LowWaterAuctionLaw", 52)
  | 7 => ("LowWaterAuctionLaw", 54)
  | 8 => ("LowWaterAuction$Parser", 132)
  | 9 => ("LowWaterAuction", 56)
  | _ => ("", 0)
def st_v (i : Nat) : Term := .field (.string (st_o i).1 (st_o i).2) "java/lang/String" "value" "[B"
def st_L (i : Nat) : List Cond := .exactly (.string (st_o i).1 (st_o i).2) "java/lang/String" :: .eq (.field (.string (st_o i).1 (st_o i).2) "java/lang/String" "coder" "B") (.int 0) :: .arrayOf (st_v i) .byte :: .eq (.length (st_v i)) (.int (Int32.ofNat (gl_len i))) :: (List.range (gl_len i)).map (fun j => .eq (.elem (st_v i) (.int (Int32.ofNat j))) (.int (nI (gl_ch i j))))
def vb_t : Term := .static "LowWaterAuction$Verb" "BARREL" "LLowWaterAuction$Verb;"
def vb_L : List Cond := [.exactly vb_t "LowWaterAuction$Verb", .eq (.field vb_t "java/lang/Enum" "ordinal" "I") (.int (nI 5))]
def ar_L (C n d : String) (ty : FieldType) (N : Nat) (f : Nat → Term) : List Cond := .arrayOf (.static C n d) ty :: .eq (.length (.static C n d)) (.int (Int32.ofNat N)) :: (List.range N).map (fun j => .eq (.elem (.static C n d) (.int (Int32.ofNat j))) (f j))
theorem st_e0 : (fw_F.drop 415).take 10 = st_L 0 := by decide +kernel
theorem st_e1 : (fw_F.drop 426).take 9 = st_L 1 := by decide +kernel
theorem st_e2 : (fw_F.drop 437).take 10 = st_L 2 := by decide +kernel
theorem st_e3 : (fw_F.drop 450).take 11 = st_L 3 := by decide +kernel
theorem st_e4 : (fw_F.drop 465).take 5 = st_L 4 := by decide +kernel
theorem st_e5 : (fw_F.drop 475).take 5 = st_L 5 := by decide +kernel
theorem st_e6 : (fw_F.drop 486).take 10 = st_L 6 := by decide +kernel
theorem st_e7 : (fw_F.drop 503).take 11 = st_L 7 := by decide +kernel
theorem st_e8 : (fw_F.drop 437).take 10 = st_L 8 := by decide +kernel
theorem st_e9 : (fw_F.drop 293).take 122 = st_L 9 := by decide +kernel
theorem vb_e5 : (fw_F.drop 4).take 2 = vb_L := by decide +kernel
theorem ar_e2 : (fw_F.drop 12).take 102 = ar_L "java/lang/Integer" "DigitOnes" "[B" .byte 100 (fun j => .int (nI (48 + j % 10))) := by decide +kernel
theorem ar_e3 : (fw_F.drop 115).take 102 = ar_L "java/lang/Integer" "DigitTens" "[B" .byte 100 (fun j => .int (nI (48 + j / 10))) := by decide +kernel
section STA
variable {args : Array Value} {s : State} {A : Nat → Prop}
theorem fw_g (h : (Jvm.Cond.and given_1 narrow_1).before args s = true) {i : Nat} {w : Cond} (e : fw_F[i]? = some w) : w.before args s = true := flat_of_before _ h _ (List.mem_of_getElem? e)
theorem fw_d (h : (Jvm.Cond.and given_1 narrow_1).before args s = true) {b n : Nat} {L : List Cond} (e : (fw_F.drop b).take n = L) : ∀ w ∈ L, w.before args s = true := fun w hw => flat_of_before _ h w (show w ∈ fw_F from List.mem_of_mem_drop (i := b) (List.mem_of_mem_take (i := n) (by rw [e]; exact hw)))
theorem fw_d2 (h : (Jvm.Cond.and given_1 narrow_1).before args s = true) {b n b2 n2 : Nat} {L : List Cond} (e : (fw_F.drop b).take n ++ (fw_F.drop b2).take n2 = L) : ∀ w ∈ L, w.before args s = true := fun w hw => by
  rw [← e] at hw
  rcases List.mem_append.mp hw with hw | hw
  · exact fw_d h rfl w hw
  · exact fw_d h rfl w hw
/-- a string with its bytes -/
theorem sg_S {i : Nat} (hi : gl_len i < 2 ^ 31) (h : ∀ w ∈ st_L i, w.before args s = true) (hA : ∀ a : Nat, a < s.heap.size → ¬ A a) : ∃ q : Nat × Nat, (Term.string (st_o i).1 (st_o i).2).eval args s none [] s = some (.ref q.1) ∧ va_O "java/lang/String" q.1 A s s.heap ∧ va_OF "java/lang/String" "coder" "B" (.int 0) q.1 A s s.heap ∧ va_OF "java/lang/String" "value" "[B" (.ref q.2) q.1 A s s.heap ∧ va_T .byte q.2 (gl_len i) (fun j => .int (nI (gl_ch i j))) A s s.heap := by
  have h0 := h _ List.mem_cons_self
  have h1 := h _ (List.mem_cons_of_mem _ List.mem_cons_self)
  have h2 := h _ (List.mem_cons_of_mem _ (List.mem_cons_of_mem _ List.mem_cons_self))
  have h3 := h _ (List.mem_cons_of_mem _ (List.mem_cons_of_mem _ (List.mem_cons_of_mem _ List.mem_cons_self)))
  have h4 : ∀ j, j < gl_len i → (Cond.eq (.elem (st_v i) (.int (Int32.ofNat j))) (.int (nI (gl_ch i j)))).before args s = true := fun j hj => h _ (List.mem_cons_of_mem _ (List.mem_cons_of_mem _ (List.mem_cons_of_mem _ (List.mem_cons_of_mem _ (List.mem_map.mpr ⟨j, List.mem_range.mpr hj, rfl⟩)))))
  obtain ⟨a, c, cA, kA, q1, q2, q3, q4, q5, q6, -⟩ := Cond.exactly_spec (args := args) (first := s) (o := none) (s := s) (idx := []) (t := .string (st_o i).1 (st_o i).2) (cls := "java/lang/String") h0
  obtain ⟨t, ht, hT⟩ := va_Tof (f := fun j => .int (nI (gl_ch i j))) (A := A) hi h2 (va_eqt h3) (fun j hj => va_eqt (h4 j hj)) hA
  exact ⟨(a, t), q1, ⟨cA, q3, q5, by rw [q6]; exact q2, hA a (Array.getElem?_eq_some_iff.mp q3).1⟩, vk_OFof q1 (va_eqt h1) hA, vk_OFof q1 ht hA, hT⟩
/-- a constant of Verb -/
theorem sg_V (h : ∀ w ∈ vb_L, w.before args s = true) (hA : ∀ a : Nat, a < s.heap.size → ¬ A a) : ∃ a : Nat, vb_t.eval args s none [] s = some (.ref a) ∧ va_O "LowWaterAuction$Verb" a A s s.heap ∧ va_OF "java/lang/Enum" "ordinal" "I" (.int (nI 5)) a A s s.heap := by
  have h0 := h _ List.mem_cons_self
  have h1 := h _ (List.mem_cons_of_mem _ List.mem_cons_self)
  obtain ⟨a, c, cA, kA, q1, q2, q3, q4, q5, q6, -⟩ := Cond.exactly_spec (args := args) (first := s) (o := none) (s := s) (idx := []) (t := vb_t) (cls := "LowWaterAuction$Verb") h0
  exact ⟨a, q1, ⟨cA, q3, q5, by rw [q6]; exact q2, hA a (Array.getElem?_eq_some_iff.mp q3).1⟩, vk_OFof q1 (va_eqt h1) hA⟩
/-- a static array -/
theorem sg_A {C n d : String} {ty : FieldType} {N : Nat} {f : Nat → Term} {v : Nat → Value} (hN : N < 2 ^ 31) (h : ∀ w ∈ ar_L C n d ty N f, w.before args s = true) (hf : ∀ j, j < N → (f j).eval args s none [] s = some (v j)) (hl : (Cond.laysStatic C n d).before args s = true) (hini : (Cond.initialized C).before args s = true) (hA : ∀ a : Nat, a < s.heap.size → ¬ A a) : ∃ t : Nat, va_Z C n d (.ref t) A s s.heap ∧ va_T ty t N v A s s.heap := by
  have h0 := h _ List.mem_cons_self
  have h1 := h _ (List.mem_cons_of_mem _ List.mem_cons_self)
  have h2 : ∀ j, j < N → (Cond.eq (.elem (.static C n d) (.int (Int32.ofNat j))) (f j)).before args s = true := fun j hj => h _ (List.mem_cons_of_mem _ (List.mem_cons_of_mem _ (List.mem_map.mpr ⟨j, List.mem_range.mpr hj, rfl⟩)))
  obtain ⟨t, ht, hT⟩ := va_Tof (f := v) (A := A) hN h0 (va_eqt h1) (fun j hj => va_eqv (h2 j hj) (hf j hj)) hA
  exact ⟨t, va_Zof hl hini ht hA, hT⟩
/-- a text's address alone -/
theorem sg_T {own : String} {k : Nat} (h0 : (Cond.exactly (.string own k) "java/lang/String").before args s = true) : ∃ a : Nat, (Term.string own k).eval args s none [] s = some (.ref a) := by
  obtain ⟨a, c, cA, kA, q1, -⟩ := Cond.exactly_spec (args := args) (first := s) (o := none) (s := s) (idx := []) (t := .string own k) (cls := "java/lang/String") h0
  exact ⟨a, q1⟩
theorem nI_bvn (v : Int32) : nI v.toBitVec.toNat = v := by
  apply Int32.toBitVec_inj.mp
  rw [nI_bv]
  apply BitVec.eq_of_toNat_eq
  rw [BitVec.toNat_ofNat, Nat.mod_eq_of_lt v.toBitVec.isLt]
def sg_Z (qs : Nat → Nat × Nat) (r2 r3 vb b L : Nat) (xs : Nat → Int32) (ts : Nat → Nat) : Nat → Nat := fun n => if n < 10 then (qs n).1 else if n < 30 then (qs (n - 20)).2 else if n = 32 then r2 else if n = 33 then r3 else if n = 34 then b else if n = 35 then L else if n < 50 then vb else if n < 100 then ts (n - 50) else (xs (n - 100)).toBitVec.toNat
def tx_o (i : Nat) : String × Nat := match i with
  | 5 => ("LowWaterAuction", 363)
  | _ => ("", 0)
set_option maxRecDepth 100000 in
set_option maxHeartbeats 1000000 in
theorem st_G {b L : Nat} {xs : Nat → Int32} (hX : va_X b L xs s s.heap) (hL : L ≤ 260) (h : (Jvm.Cond.and given_1 narrow_1).before args s = true) (ht : ∀ w ∈ tables_1, w.before args s = true) (hA : ∀ a : Nat, a < s.heap.size → ¬ A a) : ∃ Z : Nat → Nat, Z 34 = b ∧ gl_G Z A s s.heap := by
  have hT : ∀ (i : Nat) (w : Cond), tables_1[i]? = some w → w.before args s = true := fun i w e => ht w (List.mem_of_getElem? e)
  have hs : ∀ i, i < 10 → ∀ w ∈ st_L i, w.before args s = true := fun i hi => match i, hi with
    | 0, _ => fw_d h st_e0
    | 1, _ => fw_d h st_e1
    | 2, _ => fw_d h st_e2
    | 3, _ => fw_d h st_e3
    | 4, _ => fw_d h st_e4
    | 5, _ => fw_d h st_e5
    | 6, _ => fw_d h st_e6
    | 7, _ => fw_d h st_e7
    | 8, _ => fw_d h st_e8
    | 9, _ => fw_d h st_e9
    | n + 10, h9 => absurd h9 (by omega)
  have hq : ∀ i, ∃ q : Nat × Nat, i < 10 → (Term.string (st_o i).1 (st_o i).2).eval args s none [] s = some (.ref q.1) ∧ va_O "java/lang/String" q.1 A s s.heap ∧ va_OF "java/lang/String" "coder" "B" (.int 0) q.1 A s s.heap ∧ va_OF "java/lang/String" "value" "[B" (.ref q.2) q.1 A s s.heap ∧ va_T .byte q.2 (gl_len i) (fun j => .int (nI (gl_ch i j))) A s s.heap := fun i => by
    by_cases hi : i < 10
    · have hl : gl_len i < 2 ^ 31 := (show ∀ i, i < 10 → gl_len i < 2 ^ 31 by decide +kernel) i hi
      obtain ⟨q, hq⟩ := sg_S (A := A) hl (hs i hi) hA
      exact ⟨q, fun _ => hq⟩
    · exact ⟨(0, 0), fun h9 => absurd h9 hi⟩
  obtain ⟨qs, hqs⟩ := Classical.axiomOfChoice hq
  obtain ⟨vb, v1, v2, v3⟩ := sg_V (A := A) (fw_d h vb_e5) hA
  have ht0 : ∀ i, ∃ a : Nat, i = 5 → (Term.string (tx_o i).1 (tx_o i).2).eval args s none [] s = some (.ref a) := fun i => match i with
    | 5 => by
      obtain ⟨a, ha⟩ := sg_T (own := "LowWaterAuction") (k := 363) (fw_g h (i := 662) (by decide +kernel))
      exact ⟨a, fun _ => ha⟩
    | 0 => ⟨0, fun h9 => absurd h9 (by omega)⟩
    | 1 => ⟨0, fun h9 => absurd h9 (by omega)⟩
    | 2 => ⟨0, fun h9 => absurd h9 (by omega)⟩
    | 3 => ⟨0, fun h9 => absurd h9 (by omega)⟩
    | 4 => ⟨0, fun h9 => absurd h9 (by omega)⟩
    | n + 6 => ⟨0, fun h9 => absurd h9 (by omega)⟩
  obtain ⟨ts, hts⟩ := Classical.axiomOfChoice ht0
  obtain ⟨r2, z2, a2⟩ := sg_A (A := A) (v := fun j => .int (nI (48 + j % 10))) (by decide) (fw_d h ar_e2) (fun j hj => rfl) (hT 691 _ (by decide +kernel)) (hT 23 _ (by decide +kernel)) hA
  obtain ⟨r3, z3, a3⟩ := sg_A (A := A) (v := fun j => .int (nI (48 + j / 10))) (by decide) (fw_d h ar_e3) (fun j hj => rfl) (hT 693 _ (by decide +kernel)) (hT 23 _ (by decide +kernel)) hA
  refine ⟨sg_Z qs r2 r3 vb b L xs ts, ?_⟩
  have eq : ∀ i, i < 10 → sg_Z qs r2 r3 vb b L xs ts i = (qs i).1 := fun i hi => by unfold sg_Z; rw [if_pos hi]
  have eb : ∀ i, i < 10 → sg_Z qs r2 r3 vb b L xs ts (20 + i) = (qs i).2 := fun i hi => by unfold sg_Z; rw [if_neg (by omega), if_pos (by omega), Nat.add_sub_cancel_left]
  have ex : ∀ j, nI (sg_Z qs r2 r3 vb b L xs ts (100 + j)) = xs j := fun j => by unfold sg_Z; rw [if_neg (by omega), if_neg (by omega), if_neg (by omega), if_neg (by omega), if_neg (by omega), if_neg (by omega), if_neg (by omega), if_neg (by omega), Nat.add_sub_cancel_left]; exact nI_bvn _
  have e34 : sg_Z qs r2 r3 vb b L xs ts 34 = b := rfl
  have e35 : sg_Z qs r2 r3 vb b L xs ts 35 = L := rfl
  have e45 : sg_Z qs r2 r3 vb b L xs ts 45 = vb := rfl
  have e55 : sg_Z qs r2 r3 vb b L xs ts 55 = ts 5 := rfl
  have e32 : sg_Z qs r2 r3 vb b L xs ts 32 = r2 := rfl
  have e33 : sg_Z qs r2 r3 vb b L xs ts 33 = r3 := rfl
  generalize sg_Z qs r2 r3 vb b L xs ts = Z at eq eb ex e32 e33 e34 e35 e45 e55 ⊢
  refine ⟨e34, fun i hi => ?_, fun j hj => ?_, ?_, va_Zof (hT 337 _ (by decide +kernel)) (hT 14 _ (by decide +kernel)) (va_eqt (fw_g h (i := 6) (by decide +kernel))) hA, va_Zqof (hT 388 _ (by decide +kernel)) (hT 17 _ (by decide +kernel)) (fw_g h (i := 7) (by decide +kernel)) hA, vx_Zqof (hT 800 _ (by decide +kernel)) (hT 24 _ (by decide +kernel)) (fw_g h (i := 217) (by decide +kernel)) hA, vx_Zqof (hT 802 _ (by decide +kernel)) (hT 24 _ (by decide +kernel)) (fw_g h (i := 218) (by decide +kernel)) hA, ?_, ?_, ?_, ?_, ?_, ?_, ?_, ⟨va_Nw.of rfl (hT 616 _ (by decide +kernel)), ?_⟩, ?_, ?_⟩
  · obtain ⟨p1, p2, p3, p4, p5⟩ := hqs i hi
    unfold gl_S
    rw [eq i hi, eb i hi]
    exact ⟨p2, p3, p4, p5⟩
  · subst hj
    unfold gl_V
    rw [show 40 + 5 = 45 from rfl, e45]
    exact ⟨v2, v3⟩
  · exact (List.forall_mem_cons.mpr ⟨(by show va_Z _ _ _ (.ref (Z 45)) _ _ _; rw [e45]; exact va_Zof (hT 288 _ (by decide +kernel)) (hT 11 _ (by decide +kernel)) v1 hA), (List.forall_mem_cons.mpr ⟨(by show va_Z _ _ _ (.ref (Z 32)) _ _ _; rw [e32]; exact z2), (List.forall_mem_cons.mpr ⟨(by show va_Z _ _ _ (.ref (Z 33)) _ _ _; rw [e33]; exact z3), (fun _ h9 => nomatch h9)⟩)⟩)⟩)
  · rw [e34, e35]
    obtain ⟨scr, c1, c2, c3, c4, c5⟩ := hX
    exact ⟨scr, c1, c2, c3, by omega, by rw [c4], fun j hj => by rw [c5 j hj]; show _ = some (Value.int (nI (Z (100 + j)))); rw [ex j], hA b (Array.getElem?_eq_some_iff.mp c1).1⟩
  · rw [e35]; exact hL
  · rw [e32]; exact a2
  · rw [e33]; exact a3
  · exact (List.forall_mem_cons.mpr ⟨(by show vk_R _ _ _ (Z 0) _; rw [eq 0 (by decide)]; exact vk_R.of (hT 451 _ (by decide +kernel)) (hqs 0 (by decide)).1), (List.forall_mem_cons.mpr ⟨(by show vk_R _ _ _ (Z 1) _; rw [eq 1 (by decide)]; exact vk_R.of (hT 485 _ (by decide +kernel)) (hqs 1 (by decide)).1), (List.forall_mem_cons.mpr ⟨(by show vk_R _ _ _ (Z 2) _; rw [eq 2 (by decide)]; exact vk_R.of (hT 498 _ (by decide +kernel)) (hqs 2 (by decide)).1), (List.forall_mem_cons.mpr ⟨(by show vk_R _ _ _ (Z 9) _; rw [eq 9 (by decide)]; exact vk_R.of (hT 359 _ (by decide +kernel)) (hqs 9 (by decide)).1), (List.forall_mem_cons.mpr ⟨(by show vk_R _ _ _ (Z 3) _; rw [eq 3 (by decide)]; exact vk_R.of (hT 579 _ (by decide +kernel)) (hqs 3 (by decide)).1), (List.forall_mem_cons.mpr ⟨(by show vk_R _ _ _ (Z 4) _; rw [eq 4 (by decide)]; exact vk_R.of (hT 702 _ (by decide +kernel)) (hqs 4 (by decide)).1), (List.forall_mem_cons.mpr ⟨(by show vk_R _ _ _ (Z 5) _; rw [eq 5 (by decide)]; exact vk_R.of (hT 703 _ (by decide +kernel)) (hqs 5 (by decide)).1), (List.forall_mem_cons.mpr ⟨(by show vk_R _ _ _ (Z 6) _; rw [eq 6 (by decide)]; exact vk_R.of (hT 761 _ (by decide +kernel)) (hqs 6 (by decide)).1), (List.forall_mem_cons.mpr ⟨(by show vk_R _ _ _ (Z 7) _; rw [eq 7 (by decide)]; exact vk_R.of (hT 762 _ (by decide +kernel)) (hqs 7 (by decide)).1), (List.forall_mem_cons.mpr ⟨(by show vk_R _ _ _ (Z 55) _; rw [e55]; exact vk_R.of (hT 930 _ (by decide +kernel)) (hts 5 rfl)), (fun _ h9 => nomatch h9)⟩)⟩)⟩)⟩)⟩)⟩)⟩)⟩)⟩)⟩)
  · exact (List.forall_mem_cons.mpr ⟨(va_Nw.of rfl (hT 775 _ (by decide +kernel))), (List.forall_mem_cons.mpr ⟨(va_Nw.of rfl (hT 848 _ (by decide +kernel))), (List.forall_mem_cons.mpr ⟨(va_Nw.of rfl (hT 953 _ (by decide +kernel))), (fun _ h9 => nomatch h9)⟩)⟩)⟩)
  · exact (fun _ h9 => nomatch h9)
  · exact (List.forall_mem_cons.mpr ⟨(va_AO.of (hT 65 _ (by decide +kernel))), (List.forall_mem_cons.mpr ⟨(va_AO.of (hT 67 _ (by decide +kernel))), (List.forall_mem_cons.mpr ⟨(va_AO.of (hT 232 _ (by decide +kernel))), (List.forall_mem_cons.mpr ⟨(va_AO.of (hT 281 _ (by decide +kernel))), (fun _ h9 => nomatch h9)⟩)⟩)⟩)⟩)
  · exact (List.forall_mem_cons.mpr ⟨(va_Nw.of rfl (hT 46 _ (by decide +kernel))), (List.forall_mem_cons.mpr ⟨(va_Nw.of rfl (hT 69 _ (by decide +kernel))), (List.forall_mem_cons.mpr ⟨(va_Nw.of rfl (hT 99 _ (by decide +kernel))), (List.forall_mem_cons.mpr ⟨(va_Nw.of rfl (hT 252 _ (by decide +kernel))), (List.forall_mem_cons.mpr ⟨(va_Nw.of rfl (hT 283 _ (by decide +kernel))), (fun _ h9 => nomatch h9)⟩)⟩)⟩)⟩)⟩)
  · exact (List.forall_mem_cons.mpr ⟨(va_Nw.of rfl (hT 777 _ (by decide +kernel))), (List.forall_mem_cons.mpr ⟨(va_Nw.of rfl (hT 779 _ (by decide +kernel))), (List.forall_mem_cons.mpr ⟨(va_Nw.of rfl (hT 781 _ (by decide +kernel))), (fun _ h9 => nomatch h9)⟩)⟩)⟩)
end STA
