/-! GLOBALS: strings, constants, statics, the script: what no walk writes (laid by wip/p67/gfr.py) -/
def gl_tx (i : Nat) : List Nat := match i with
  | 0 => [109, 97, 114, 107, 101, 116]
  | 1 => [98, 117, 121, 101, 114]
  | 2 => [98, 97, 114, 114, 101, 108]
  | 3 => [109, 97, 114, 107, 101, 116, 32]
  | 4 => [32]
  | 5 => [59]
  | 6 => [98, 117, 121, 101, 114, 32]
  | 7 => [98, 97, 114, 114, 101, 108, 32]
  | 8 => [98, 97, 114, 114, 101, 108]
  | 9 => [109, 97, 114, 107, 101, 116, 32, 50, 48, 32, 49, 50, 32, 50, 32, 53, 32, 49, 48, 59, 32, 98, 117, 121, 101, 114, 32, 50, 48, 48, 32, 49, 32, 53, 48, 59, 32, 98, 117, 121, 101, 114, 32, 57, 48, 32, 50, 32, 54, 48, 59, 32, 98, 117, 121, 101, 114, 32, 51, 48, 48, 32, 48, 32, 49, 59, 32, 98, 97, 114, 114, 101, 108, 32, 50, 48, 32, 52, 48, 32, 53, 53, 32, 51, 48, 59, 32, 98, 97, 114, 114, 101, 108, 32, 53, 48, 32, 49, 48, 48, 32, 57, 48, 59, 32, 98, 97, 114, 114, 101, 108, 32, 49, 48, 32, 49, 53, 59]
  | _ => []
def gl_ks : List (String × Nat × String × Nat) := [("LowWaterAuction$Parser", 86, "market", 0), ("LowWaterAuction$Parser", 123, "buyer", 1), ("LowWaterAuction$Parser", 132, "barrel", 2), ("LowWaterAuction", 56, "market 20 12 2 5 10; buyer 200 1 50; buyer 90 2 60; buyer 300 0 1; barrel 20 40 55 30; barrel 50 100 90; barrel 10 15;", 9), ("LowWaterAuctionLaw", 36, "market ", 3), ("LowWaterAuctionLaw", 44, " ", 4), ("LowWaterAuctionLaw", 46, ";", 5), ("LowWaterAuctionLaw", 52, "buyer ", 6), ("LowWaterAuctionLaw", 54, "barrel ", 7), ("LowWaterAuction", 363, "the state does not allow this", 55)]
def gl_zs : List (String × String × String × Nat) := [("LowWaterAuction$Verb", "BARREL", "LLowWaterAuction$Verb;", 45), ("java/lang/Integer", "DigitOnes", "[B", 32), ("java/lang/Integer", "DigitTens", "[B", 33)]
def gl_es : List String := ["java/lang/IllegalArgumentException", "java/lang/IllegalStateException", "java/lang/IndexOutOfBoundsException"]
def gl_ns : List (String × String) := []
def gl_nm : List (String × Nat × String) := [("LowWaterAuction$Market", 11, "LowWaterAuction$Tide"), ("LowWaterAuction$Market", 53, "LowWaterAuction$Buyer"), ("LowWaterAuction$Market", 54, "LowWaterAuction$Barrel"), ("LowWaterAuction$Parser", 11, "LowWaterAuction$InputText"), ("LowWaterAuction$Parser", 24, "LowWaterAuction$Command")]
def gl_os : List String := ["LowWaterAuction$Buyer", "LowWaterAuction$Barrel", "LowWaterAuction$Market", "LowWaterAuction$Command"]
def gl_ds : List String := ["java/lang/RuntimeException", "java/lang/Exception", "java/lang/Throwable"]
def ow_ex (c : Nat) : String := match c with
  | 1 => "java/lang/IllegalArgumentException"
  | 2 => "java/lang/IllegalStateException"
  | 3 => "java/lang/IndexOutOfBoundsException"
  | _ => "java/util/NoSuchElementException"
def gl_len (i : Nat) : Nat := (gl_tx i).length
def gl_ch (i j : Nat) : Nat := (gl_tx i).getD j 0
def gl_sm (j : Nat) : Nat := if j < 5 then j + 1 else 0
def gl_S (Z : Nat → Nat) (i : Nat) (A : Nat → Prop) (U : State) (H : Heap) : Prop := va_O "java/lang/String" (Z i) A U H ∧ va_OF "java/lang/String" "coder" "B" (.int 0) (Z i) A U H ∧ va_OF "java/lang/String" "value" "[B" (.ref (Z (20 + i))) (Z i) A U H ∧ va_T .byte (Z (20 + i)) (gl_len i) (fun j => .int (nI (gl_ch i j))) A U H
def gl_V (Z : Nat → Nat) (j : Nat) (A : Nat → Prop) (U : State) (H : Heap) : Prop := va_O "LowWaterAuction$Verb" (Z (40 + j)) A U H ∧ va_OF "java/lang/Enum" "ordinal" "I" (.int (nI j)) (Z (40 + j)) A U H
def gl_y (c : String) : MethodName := ⟨c, "<init>", "()V"⟩
def gl_G (Z : Nat → Nat) (A : Nat → Prop) (U : State) (H : Heap) : Prop :=
  (∀ i, i < 10 → gl_S Z i A U H) ∧ (∀ j, j = 5 → gl_V Z j A U H) ∧ (∀ q ∈ gl_zs, va_Z q.1 q.2.1 q.2.2.1 (.ref (Z q.2.2.2)) A U H) ∧ va_Z "java/lang/String" "COMPACT_STRINGS" "Z" (.int 1) A U H ∧
  va_Zq "jdk/internal/util/Preconditions" "SIOOBE_FORMATTER" "Ljava/util/function/BiFunction;" A U H ∧ vx_Zq Bundle.tN "UNASSIGNED_STACK" Bundle.steD A U H ∧ vx_Zq Bundle.tN "SUPPRESSED_SENTINEL" Bundle.listD A U H ∧
  va_T .int (Z 34) (Z 35) (fun j => .int (nI (Z (100 + j)))) A U H ∧ Z 35 ≤ 260 ∧ va_T .byte (Z 32) 100 (fun j => .int (nI (48 + j % 10))) A U H ∧ va_T .byte (Z 33) 100 (fun j => .int (nI (48 + j / 10))) A U H ∧
  (∀ q ∈ gl_ks, vk_R q.1 q.2.1 q.2.2.1 (Z q.2.2.2) U) ∧ (∀ E ∈ gl_es, va_Nw (.castable E E) U) ∧ (∀ q ∈ gl_ns, va_Nc q.1 q.2 U) ∧
  (va_Nw (.castable "[B" "java/lang/Cloneable") U ∧ ∀ C ∈ gl_os, va_AO C U) ∧ (∀ q ∈ gl_nm, va_Nw (.methodLinkNest q.1 q.2.1 (gl_y q.2.2) "LowWaterAuction") U) ∧ (∀ q ∈ gl_ds, va_Nw (.declares (Bundle.initS q)) U)
theorem gl_S.moved {Z : Nat → Nat} {i : Nat} {A : Nat → Prop} {u U : State} {H : Heap} (hv : u.vm.Alike U.vm) (h : gl_S Z i A u H) : gl_S Z i A U H := ⟨h.1.moved hv, h.2.1.moved hv, h.2.2.1.moved hv, h.2.2.2.moved hv⟩
theorem gl_S.kept {Z : Nat → Nat} {i : Nat} {A : Nat → Prop} {U : State} {H H1 : Heap} (h : gl_S Z i A U H) (hq : ∀ a : Nat, a < H.size → ¬ A a → H1[a]? = H[a]?) : gl_S Z i A U H1 := ⟨h.1.kept hq, h.2.1.kept hq, h.2.2.1.kept hq, h.2.2.2.kept hq⟩
theorem gl_S.narrow {Z : Nat → Nat} {i : Nat} {A B : Nat → Prop} {U : State} {H : Heap} (h : gl_S Z i A U H) (hAB : ∀ q, B q → A q) : gl_S Z i B U H := ⟨h.1.narrow hAB, h.2.1.narrow hAB, h.2.2.1.narrow hAB, h.2.2.2.narrow hAB⟩
theorem gl_V.moved {Z : Nat → Nat} {i : Nat} {A : Nat → Prop} {u U : State} {H : Heap} (hv : u.vm.Alike U.vm) (h : gl_V Z i A u H) : gl_V Z i A U H := ⟨h.1.moved hv, h.2.moved hv⟩
theorem gl_V.kept {Z : Nat → Nat} {i : Nat} {A : Nat → Prop} {U : State} {H H1 : Heap} (h : gl_V Z i A U H) (hq : ∀ a : Nat, a < H.size → ¬ A a → H1[a]? = H[a]?) : gl_V Z i A U H1 := ⟨h.1.kept hq, h.2.kept hq⟩
theorem gl_V.narrow {Z : Nat → Nat} {i : Nat} {A B : Nat → Prop} {U : State} {H : Heap} (h : gl_V Z i A U H) (hAB : ∀ q, B q → A q) : gl_V Z i B U H := ⟨h.1.narrow hAB, h.2.narrow hAB⟩
theorem gl_G.mv {Z : Nat → Nat} {A : Nat → Prop} {u U : State} {H : Heap} (hv : u.vm.Alike U.vm) (hk : ∀ own k tx a, vk_R own k tx a u → vk_R own k tx a U) (hc : ∀ E E2, va_Nw (.castable E E2) u → va_Nw (.castable E E2) U) (hf : ∀ a i b n d h, va_Nw (.fieldLinkNest a i b n d h) u → va_Nw (.fieldLinkNest a i b n d h) U)
    (hm : ∀ a i x h, va_Nw (.methodLinkNest a i x h) u → va_Nw (.methodLinkNest a i x h) U) (hd : ∀ x, va_Nw (.declares x) u → va_Nw (.declares x) U) (h : gl_G Z A u H) : gl_G Z A U H := by
  obtain ⟨h1, h2, h3, h4, h5, h6, h7, h8, h9, h10, h11, h12, h13, h14, h15, h16, h17⟩ := h
  exact ⟨fun i hi => (h1 i hi).moved hv, fun i hi => (h2 i hi).moved hv, fun q hq => (h3 q hq).moved hv, h4.moved hv, h5.moved hv, h6.moved hv, h7.moved hv, h8.moved hv, h9, h10.moved hv, h11.moved hv, fun q hq => hk _ _ _ _ (h12 q hq), fun E hE => hc _ _ (h13 E hE), fun q hq => (h14 q hq).moved hv, ⟨hc _ _ h15.1, fun C hC => (h15.2 C hC).moved hv⟩, fun q hq => hm _ _ _ _ (h16 q hq), fun q hq => hd _ (h17 q hq)⟩
theorem gl_G.kept {Z : Nat → Nat} {A : Nat → Prop} {U : State} {H H1 : Heap} (h : gl_G Z A U H) (hq : ∀ a : Nat, a < H.size → ¬ A a → H1[a]? = H[a]?) : gl_G Z A U H1 := by
  obtain ⟨h1, h2, h3, h4, h5, h6, h7, h8, h9, h10, h11, h12⟩ := h
  exact ⟨fun i hi => (h1 i hi).kept hq, fun i hi => (h2 i hi).kept hq, fun q hq' => (h3 q hq').kept hq, h4.kept hq, h5.kept hq, h6.kept hq, h7.kept hq, h8.kept hq, h9, h10.kept hq, h11.kept hq, h12⟩
theorem gl_G.narrow {Z : Nat → Nat} {A B : Nat → Prop} {U : State} {H : Heap} (h : gl_G Z A U H) (hAB : ∀ q, B q → A q) : gl_G Z B U H := by
  obtain ⟨h1, h2, h3, h4, h5, h6, h7, h8, h9, h10, h11, h12⟩ := h
  exact ⟨fun i hi => (h1 i hi).narrow hAB, fun i hi => (h2 i hi).narrow hAB, fun q hq' => (h3 q hq').narrow hAB, h4.narrow hAB, h5.narrow hAB, h6.narrow hAB, h7.narrow hAB, h8.narrow hAB, h9, h10.narrow hAB, h11.narrow hAB, h12⟩
theorem gl_G.same {Z : Nat → Nat} {A : Nat → Prop} {u U : State} {H : Heap} (hv : U.vm = u.vm) (h : gl_G Z A u H) : gl_G Z A U H :=
  h.mv (by rw [hv]; exact Vm.Alike.refl u.vm) (fun _ _ _ _ q => vk_R.same hv q) (fun _ _ q => va_Nw.same rfl hv.symm q) (fun _ _ _ _ _ _ q => va_Nw.same rfl hv.symm q) (fun _ _ _ _ q => va_Nw.same rfl hv.symm q) (fun _ q => va_Nw.same rfl hv.symm q)
theorem gl_G.warm {Z : Nat → Nat} {A : Nat → Prop} {s U : State} {H : Heap} (hW : s.WarmedH U.vm) (h : gl_G Z A s H) : gl_G Z A U H :=
  h.mv hW.alike (fun _ _ _ _ q => vk_R.warm hW q) (fun _ _ q => va_Nw.warmC hW q) (fun _ _ _ _ _ _ q => va_Nw.warmF hW q) (fun _ _ _ _ q => va_Nw.warmM hW q) (fun _ q => va_Nw.warmD hW q)
/-- a fact of the start of a walk, of its heap and of what it may write -/
def og_f (X : ow_X) (P : (Nat → Prop) → State → Heap → Prop) : Prop := match X with | (_, _, _, _, s, _, _, _, _, _, _, _, A) => P A s s.heap
def og_u (X : ow_X) (P : State → Prop) : Prop := match X with | (_, _, _, _, s, _, _, _, _, _, _, _, _) => P s
def og_G (X : ow_X) (Z : Nat → Nat) : Prop := match X with | (_, l, _, _, s, _, _, _, _, _, _, _, A) => gl_G Z A s s.heap ∧ l.stackTraces = false
section OGF
variable {X : ow_X} {Z : Nat → Nat}
theorem og_1 (G : og_G X Z) {i : Nat} (hi : i < 10) : og_f X (gl_S Z i) := by obtain ⟨p, l, e, R, s, m, args, below, meth, c, Q, D, A⟩ := X; exact G.1.1 i hi
theorem og_2 (G : og_G X Z) {j : Nat} (hj : j = 5) : og_f X (gl_V Z j) := by obtain ⟨p, l, e, R, s, m, args, below, meth, c, Q, D, A⟩ := X; exact G.1.2.1 j hj
theorem og_3 (G : og_G X Z) (i : Nat) {a b c : String} {k : Nat} (h : gl_zs[i]? = some (a, b, c, k)) : og_f X (va_Z a b c (.ref (Z k))) := by
  obtain ⟨p, l, e, R, s, m, args, below, meth, cc, Q, D, A⟩ := X
  exact G.1.2.2.1 _ (List.mem_of_getElem? h)
theorem og_4 (G : og_G X Z) : og_f X (va_Z "java/lang/String" "COMPACT_STRINGS" "Z" (.int 1)) := by obtain ⟨p, l, e, R, s, m, args, below, meth, c, Q, D, A⟩ := X; exact G.1.2.2.2.1
theorem og_5 (G : og_G X Z) : og_f X (va_Zq "jdk/internal/util/Preconditions" "SIOOBE_FORMATTER" "Ljava/util/function/BiFunction;") := by obtain ⟨p, l, e, R, s, m, args, below, meth, c, Q, D, A⟩ := X; exact G.1.2.2.2.2.1
theorem og_8 (G : og_G X Z) : og_f X (va_T .int (Z 34) (Z 35) (fun j => .int (nI (Z (100 + j))))) := by obtain ⟨p, l, e, R, s, m, args, below, meth, c, Q, D, A⟩ := X; exact G.1.2.2.2.2.2.2.2.1
theorem og_9 (G : og_G X Z) : Z 35 ≤ 260 := by obtain ⟨p, l, e, R, s, m, args, below, meth, c, Q, D, A⟩ := X; exact G.1.2.2.2.2.2.2.2.2.1
theorem og_10 (G : og_G X Z) : og_f X (va_T .byte (Z 32) 100 (fun j => .int (nI (48 + j % 10)))) := by obtain ⟨p, l, e, R, s, m, args, below, meth, c, Q, D, A⟩ := X; exact G.1.2.2.2.2.2.2.2.2.2.1
theorem og_11 (G : og_G X Z) : og_f X (va_T .byte (Z 33) 100 (fun j => .int (nI (48 + j / 10)))) := by obtain ⟨p, l, e, R, s, m, args, below, meth, c, Q, D, A⟩ := X; exact G.1.2.2.2.2.2.2.2.2.2.2.1
theorem og_12 (G : og_G X Z) (i : Nat) {own tx : String} {k a : Nat} (h : gl_ks[i]? = some (own, k, tx, a)) : og_u X (vk_R own k tx (Z a)) := by
  obtain ⟨p, l, e, R, s, m, args, below, meth, cc, Q, D, A⟩ := X
  exact G.1.2.2.2.2.2.2.2.2.2.2.2.1 _ (List.mem_of_getElem? h)
theorem og_15 (G : og_G X Z) : og_u X (va_Nw (.castable "[B" "java/lang/Cloneable")) := by obtain ⟨p, l, e, R, s, m, args, below, meth, c, Q, D, A⟩ := X; exact G.1.2.2.2.2.2.2.2.2.2.2.2.2.2.2.1.1
theorem og_17 (G : og_G X Z) : og_u X (fun U => ∀ C ∈ gl_os, va_AO C U) := by obtain ⟨p, l, e, R, s, m, args, below, meth, c, Q, D, A⟩ := X; exact G.1.2.2.2.2.2.2.2.2.2.2.2.2.2.2.1.2
theorem og_16 (G : og_G X Z) (i : Nat) {own cls : String} {k : Nat} (h : gl_nm[i]? = some (own, k, cls)) : og_u X (va_Nw (.methodLinkNest own k (gl_y cls) "LowWaterAuction")) := by
  obtain ⟨p, l, e, R, s, m, args, below, meth, cc, Q, D, A⟩ := X
  exact G.1.2.2.2.2.2.2.2.2.2.2.2.2.2.2.2.1 _ (List.mem_of_getElem? h)
theorem og_sv {i : Nat} (h : og_f X (gl_S Z i)) : og_f X (va_OF "java/lang/String" "value" "[B" (.ref (Z (20 + i))) (Z i)) := by obtain ⟨p, l, e, R, s, m, args, below, meth, c, Q, D, A⟩ := X; exact h.2.2.1
theorem og_sc {i : Nat} (h : og_f X (gl_S Z i)) : og_f X (va_OF "java/lang/String" "coder" "B" (.int 0) (Z i)) := by obtain ⟨p, l, e, R, s, m, args, below, meth, c, Q, D, A⟩ := X; exact h.2.1
theorem og_so {i : Nat} (h : og_f X (gl_S Z i)) : og_f X (va_O "java/lang/String" (Z i)) := by obtain ⟨p, l, e, R, s, m, args, below, meth, c, Q, D, A⟩ := X; exact h.1
theorem og_st {i : Nat} (h : og_f X (gl_S Z i)) : og_f X (va_T .byte (Z (20 + i)) (gl_len i) (fun j => .int (nI (gl_ch i j)))) := by obtain ⟨p, l, e, R, s, m, args, below, meth, c, Q, D, A⟩ := X; exact h.2.2.2
theorem og_vo {i : Nat} (h : og_f X (gl_V Z i)) : og_f X (va_O "LowWaterAuction$Verb" (Z (40 + i))) := by obtain ⟨p, l, e, R, s, m, args, below, meth, c, Q, D, A⟩ := X; exact h.1
theorem og_vn {i : Nat} (h : og_f X (gl_V Z i)) : og_f X (va_OF "java/lang/Enum" "ordinal" "I" (.int (nI i)) (Z (40 + i))) := by obtain ⟨p, l, e, R, s, m, args, below, meth, c, Q, D, A⟩ := X; exact h.2
end OGF
/-! CONTRACTS THAT MAY THROW: c = 0: it returns r; else it throws ow_ex c -/
def ox_Pc (Z : Nat → Nat) (D : va_G) (as : List Value) (h : ow_H) : Array Value → State → Prop := fun v U => ow_Pc D as h v U ∧ gl_G Z (ow_Dm h) U U.heap
theorem ox_Pc_blind (Z : Nat → Nat) (D : va_G) (as : List Value) (h : ow_H) : FrameBlind (ox_Pc Z D as h) := fun a U g mk q => ⟨ow_Pc_blind D as h a U g mk q.1, gl_G.same (u := U) (U := U.calling g mk a) rfl q.2⟩
def ox_XC (D : va_G) (K : Nat → Option Value → ow_H → Prop) (h : ow_H) : String → State → State → Prop := fun E st t => (∃ (c : Nat) (h1 : ow_H), E = ow_ex c ∧ 0 < c ∧ K c none h1 ∧ ow_R D t h1 t.heap ∧ (∀ (q : Nat) (sh : ow_Sh), h1.1 q = some sh → ow_Dm h q)) ∧ va_F (ow_Dm h) st t
def ow_Cx (Z : Nat → Nat) (y : MethodName) (cy : ByteArray) (n : Nat) (ret : Option FieldType) (k mc ms : Nat) (as : List Value) (h : ow_H) (K : Nat → Option Value → ow_H → Prop) : Prop :=
  ∀ (l : Launch) (D : va_G), l.stackTraces = false → vx_Met l y (Cond.code y cy n ret :: ow_T) (ow_rm k mc ms) (ox_Pc Z D as h) (ow_Qc D (fun r h1 => K 0 r h1) h) (ox_XC D K h) mc ms (ow_Dm h)
def ox_F (X : ow_X) (h0 : ow_H) (K : Nat → Option Value → ow_H → Prop) (mc ms : Nat) (ret : Option FieldType) (nm : String) : Prop := match X with
  | (_, _, _, _, s, _, args, below, meth, c, Q, D, A) => Q = vx_MQ below (ow_Qc D (fun r h1 => K 0 r h1) h0) (ox_XC D K h0) args s mc ms (ow_Dm h0) ∧ A = ow_Dm h0 ∧ meth.sig.returnType = ret ∧ meth.locks = false ∧ meth.name = nm ∧ (∀ x ∈ c.exceptionTable.toList, False)
theorem ow_Cx.of {Z : Nat → Nat} {y : MethodName} {cy : ByteArray} {n : Nat} {ret : Option FieldType} {k mc ms : Nat} {as : List Value} {h : ow_H} {K : Nat → Option Value → ow_H → Prop} (hy : plainName y.cls = true) (hlen : (lg_sl as).length ≤ n)
    (body : ∀ X : ow_X, ow_E X y.cls cy n (ow_rm k mc ms) → og_G X Z → ox_F X h K mc ms ret y.name → ow_W X 0 0 h 0 (lv_args 0 as) []) : ow_Cx Z y cy n ret k mc ms as h K := by
  intro l D hl0
  refine vx_ofW (cc := cy) (maxL := n) (ret := ret) hy rfl ?_
  intro p e s m args below meth c s₁ B hml hx0 hv
  obtain ⟨⟨rfl, hR, hK⟩, hG⟩ := hv
  have hx := B.exec
  have hb := B.bytes
  have hr := B.returns
  have hts := atoms_spec (ws := Cond.code y cy n ret :: ow_T) B.pre
  have hown : s.vm.findClass y.cls = some m.cls := findClass_of_methodNamed B.named
  have hlocks := B.notSynchronized
  have hnm : meth.name = y.name := (name_of_methodNamed B.named B.method).1
  have hw := body (p, l, e, ow_rm k mc ms, s, m, as.toArray, below, meth, c, vx_MQ below (ow_Qc D (fun r h1 => K 0 r h1) h) (ox_XC D K h) as.toArray s mc ms (ow_Dm h), D, ow_Dm h) ⟨hx, hb, hown, fun w hw => hts w (List.mem_cons_of_mem _ hw), hK, fun q hq => Or.inr (by rw [← hR.2]; exact hq), hml, rfl⟩ ⟨hG, hl0⟩ ⟨rfl, rfl, hr, hlocks, hnm, hx0⟩
  have hl := lv_entry as (n := n) hlen
  rw [lg_entry_eq]
  exact hw s.heap [] _ hR (fun q sh hq => Or.inl ⟨sh, hq⟩) va_S.rf (by rw [hml]; exact hl)
/-- what is told of a functional contract's end -/
def ox_s (S : Nat → Option ow_Sh) (V : Nat → Nat → Value) (z : Nat) (c : Nat) (r : Option Value) (I : ow_I) : Nat → Option Value → ow_H → Prop := fun c' r' h1 => c' = c ∧ (c = 0 → r' = r ∧ h1 = (S, I, V, z)) ∧ (0 < c → r' = none ∧ ∃ z', z ≤ z' ∧ h1 = (S, I, V, z'))
def ox_e (K : Nat → Option Value → ow_H → Prop) (S : Nat → Option ow_Sh) (V : Nat → Nat → Value) (z : Nat) (c : Nat) (r : Option Value) (I : ow_I) : Prop := (c = 0 → K 0 r (S, I, V, z)) ∧ (0 < c → ∀ z', z ≤ z' → K c none (S, I, V, z'))
theorem ow_Cx.off {Z : Nat → Nat} {y : MethodName} {cy : ByteArray} {n : Nat} {ret : Option FieldType} {k mc ms : Nat} {as : List Value} {h : ow_H} {S : Nat → Option ow_Sh} {V : Nat → Nat → Value} {z c : Nat} {r : Option Value} {I : ow_I} (hy : plainName y.cls = true) (hlen : (lg_sl as).length ≤ n)
    (body : ∀ (X : ow_X) (K : Nat → Option Value → ow_H → Prop), ow_E X y.cls cy n (ow_rm k mc ms) → og_G X Z → ox_F X h K mc ms ret y.name → ox_e K S V z c r I → ow_W X 0 0 h 0 (lv_args 0 as) []) : ow_Cx Z y cy n ret k mc ms as h (ox_s S V z c r I) :=
  ow_Cx.of hy hlen (fun X E G F => body X _ E G F ⟨fun hc => ⟨hc.symm, fun _ => ⟨rfl, rfl⟩, fun h0 => absurd hc (Nat.pos_iff_ne_zero.mp h0)⟩, fun hc z' hz => ⟨rfl, fun h0 => absurd h0 (Nat.pos_iff_ne_zero.mp hc), fun _ => ⟨rfl, z', hz, rfl⟩⟩⟩)
theorem ow_R.grow {D : va_G} {s t : State} {S : Nat → Option ow_Sh} {I : Nat → Nat → Int32} {V : Nat → Nat → Value} {z : Nat} {H : Heap} (hR : ow_R D s (S, I, V, z) H) (hvm : s.vm.Alike t.vm) (hq : ∀ q : Nat, q < H.size → t.heap[q]? = H[q]?) : ow_R D t (S, I, V, t.heap.size) t.heap := by
  refine ⟨fun a sh hs => ?_, rfl⟩
  have h1 := (hR.moved hvm).1 a sh hs
  cases sh with
  | inl o =>
    obtain ⟨r, g1, g2⟩ := h1
    obtain ⟨cell, g3, -⟩ := id g2
    exact ⟨r, g1, g2.kept (hq a (Array.getElem?_eq_some_iff.mp g3).1)⟩
  | inr x =>
    obtain ⟨cA, g1, g2, g3⟩ := h1
    exact ⟨cA, (hq a (Array.getElem?_eq_some_iff.mp g1).1).trans g1, g2, g3⟩
section OX
variable {X : ow_X} {cs sl : Nat} {h : ow_H} {pc : Nat} {lv : List (Nat × Value)} {st : List Value} {own : String} {cc : ByteArray} {nL kR mR sR : Nat} {Z : Nat → Nat} {R0 : Room}
variable {h0 : ow_H} {K : Nat → Option Value → ow_H → Prop} {mcR msR : Nat} {retR : Option FieldType} {nmR : String}
/-- a return out of a method that may throw: by the rows of one that doesn't -/
theorem or_xr (E : ow_E X own cc nL R0) (F : ox_F X h0 K mcR msR retR nmR) (kk : ∀ X' : ow_X, ow_E X' own cc nL R0 → ow_F X' h0 (fun r h1 => K 0 r h1) mcR msR retR nmR → ow_W X' cs sl h pc lv st) : ow_W X cs sl h pc lv st := by
  obtain ⟨p, l, e, R, s, m, args, below, meth, c, Q, D, A⟩ := X
  obtain ⟨rfl, rfl, hr, hl, hn, hx⟩ := F
  intro H locs ls hR hD hS hl'
  exact vx_ret (kk (p, l, e, R, s, m, args, below, meth, c, MQ below (ow_Qc D (fun r h1 => K 0 r h1) h0) args s mcR msR (ow_Dm h0), D, ow_Dm h0) E ⟨rfl, rfl, hr, hl, hn⟩ H locs ls hR hD hS hl')
theorem or_aret {v : Value} {rt : FieldType} {K0 : Option Value → ow_H → Prop} (E : ow_E X own cc nL R0) (F : ow_F X h0 K0 mcR msR (some rt) nmR) (hrt : (∃ n, rt = .object n) ∨ ∃ t, rt = .array t) (hv : v = .null ∨ ∃ a, v = .ref a) (d : decode cc pc = .ok (.areturn, 1)) (hc : cs ≤ mcR) (hs : sl ≤ msR) (hk : K0 (some v) h) : ow_W X cs sl h pc lv [v] := by
  obtain ⟨p, l, e, R, s, m, args, below, meth, c, Q, D, A⟩ := X
  obtain ⟨hx, hb, hown, hts, hK, hA, hml, hR0⟩ := E
  obtain ⟨rfl, rfl, hr, hlocks, hnm⟩ := F
  intro H locs ls hR hD hSS hl
  refine W.widen hc hs (W.aret hx hb hr hrt hv (fun t ht hW => ?_) hSS.2.2 d hlocks)
  exact ⟨⟨_, h, rfl, hk, by rw [ht]; exact hR.moved hW.alike, hD⟩, by rw [ht]; exact hSS.1, fun q h1 h2 => by rw [ht]; exact hSS.2.1 q h1 h2⟩
/-- getstatic -/
theorem or_gs {C n d : String} {idx : Nat} {v : Value} (E : ow_E X own cc nL R0) (hZ : og_f X (va_Z C n d v)) (hw : Cond.fieldLink own idx C n d ∈ ow_T) (dd : decode cc pc = .ok (.getstatic idx, 3)) (k : ow_W X cs sl h (pc + 3) lv (v :: st)) : ow_W X cs sl h pc lv st := by
  obtain ⟨p, l, e, R, s, m, args, below, meth, c, Q, D, A⟩ := X
  obtain ⟨hx, hb, hown, hts, hK, hA, hml, hR0⟩ := E
  intro H locs ls hR hD hSS hl
  exact va_gets hx hb hZ hSS hown (hts _ hw) (fun _ h => h) dd (k H locs ls hR hD hSS hl)
theorem or_gsq {C n d : String} {idx : Nat} (E : ow_E X own cc nL R0) (hZ : og_f X (va_Zq C n d)) (hw : Cond.fieldLink own idx C n d ∈ ow_T) (dd : decode cc pc = .ok (.getstatic idx, 3)) (k : ∀ v : Value, (v = .null ∨ ∃ a, v = .ref a) → ow_W X cs sl h (pc + 3) lv (v :: st)) : ow_W X cs sl h pc lv st := by
  have h1 : ∃ v : Value, (v = .null ∨ ∃ a, v = .ref a) ∧ og_f X (va_Z C n d v) := by
    obtain ⟨p, l, e, R, s, m, args, below, meth, c, Q, D, A⟩ := X
    rcases hZ with hz | ⟨t, hz⟩
    · exact ⟨.null, Or.inl rfl, hz⟩
    · exact ⟨.ref t, Or.inr ⟨t, rfl⟩, hz⟩
  obtain ⟨v, hv, hz⟩ := h1
  exact or_gs E hz hw dd (k v hv)
theorem or_gsN {C n d host : String} {idx : Nat} {v : Value} (E : ow_E X own cc nL R0) (hZ : og_f X (va_Z C n d v)) (hw : og_u X (va_Nw (.fieldLinkNest own idx C n d host))) (dd : decode cc pc = .ok (.getstatic idx, 3)) (k : ow_W X cs sl h (pc + 3) lv (v :: st)) : ow_W X cs sl h pc lv st := by
  obtain ⟨p, l, e, R, s, m, args, below, meth, c, Q, D, A⟩ := X
  obtain ⟨hx, hb, hown, hts, hK, hA, hml, hR0⟩ := E
  intro H locs ls hR hD hSS hl
  exact va_getsN hx hb hZ hSS hown (va_Nw.use rfl hw) (fun _ h => h) dd (k H locs ls hR hD hSS hl)
theorem or_ldcS {tx : String} {idx a : Nat} (E : ow_E X own cc nL R0) (hZ : og_u X (vk_R own idx tx a)) (dd : decode cc pc = .ok (.ldc idx, 2)) (k : ow_W X cs sl h (pc + 2) lv (.ref a :: st)) : ow_W X cs sl h pc lv st := by
  obtain ⟨p, l, e, R, s, m, args, below, meth, c, Q, D, A⟩ := X
  obtain ⟨hx, hb, hown, hts, hK, hA, hml, hR0⟩ := E
  intro H locs ls hR hD hSS hl
  exact va_ldcS hx hb hown hZ dd (k H locs ls hR hD hSS hl)
theorem or_gf {o n d : String} {idx a : Nat} {v : Value} (E : ow_E X own cc nL R0) (hF : og_f X (va_OF o n d v a)) (hw : Cond.fieldLink own idx o n d ∈ ow_T) (dd : decode cc pc = .ok (.getfield idx, 3)) (k : ow_W X cs sl h (pc + 3) lv (v :: st)) : ow_W X cs sl h pc lv (.ref a :: st) := by
  obtain ⟨p, l, e, R, s, m, args, below, meth, c, Q, D, A⟩ := X
  obtain ⟨hx, hb, hown, hts, hK, hA, hml, hR0⟩ := E
  intro H locs ls hR hD hSS hl
  exact vk_getf hx hb hF hSS hown (hts _ hw) (fun _ h => h) dd (k H locs ls hR hD hSS hl)
theorem or_gaa {C : String} {a N j : Nat} {f : Nat → Value} (E : ow_E X own cc nL R0) (hT : og_f X (va_T (.object C) a N f)) (hj : j < N) (hN : N < 2 ^ 31) (dd : decode cc pc = .ok (.aaload, 1)) (k : ow_W X cs sl h (pc + 1) lv (f j :: st)) : ow_W X cs sl h pc lv (.int (nI j) :: .ref a :: st) := by
  obtain ⟨p, l, e, R, s, m, args, below, meth, c, Q, D, A⟩ := X
  obtain ⟨hx, hb, hown, hts, hK, hA, hml, hR0⟩ := E
  intro H locs ls hR hD hSS hl
  exact vb_tq hx hb hT hSS (vp_in_nI hj hN) (by rw [nI_clamp (by omega)]) dd (k H locs ls hR hD hSS hl)
theorem or_gia {a N j : Nat} {f : Nat → Value} (E : ow_E X own cc nL R0) (hT : og_f X (va_T .int a N f)) (hj : j < N) (hN : N < 2 ^ 31) (dd : decode cc pc = .ok (.iaload, 1)) (k : ow_W X cs sl h (pc + 1) lv (f j :: st)) : ow_W X cs sl h pc lv (.int (nI j) :: .ref a :: st) := by
  obtain ⟨p, l, e, R, s, m, args, below, meth, c, Q, D, A⟩ := X
  obtain ⟨hx, hb, hown, hts, hK, hA, hml, hR0⟩ := E
  intro H locs ls hR hD hSS hl
  exact va_ti hx hb hT hSS (vp_in_nI hj hN) (by rw [nI_clamp (by omega)]) dd (k H locs ls hR hD hSS hl)
theorem or_gba {a N j : Nat} {f : Nat → Value} (E : ow_E X own cc nL R0) (hT : og_f X (va_T .byte a N f)) (hj : j < N) (hN : N < 2 ^ 31) (dd : decode cc pc = .ok (.baload, 1)) (k : ow_W X cs sl h (pc + 1) lv (f j :: st)) : ow_W X cs sl h pc lv (.int (nI j) :: .ref a :: st) := by
  obtain ⟨p, l, e, R, s, m, args, below, meth, c, Q, D, A⟩ := X
  obtain ⟨hx, hb, hown, hts, hK, hA, hml, hR0⟩ := E
  intro H locs ls hR hD hSS hl
  exact va_tb hx hb hT hSS (vp_in_nI hj hN) (by rw [nI_clamp (by omega)]) dd (k H locs ls hR hD hSS hl)
theorem or_glen {ty : FieldType} {a N : Nat} {f : Nat → Value} (E : ow_E X own cc nL R0) (hT : og_f X (va_T ty a N f)) (dd : decode cc pc = .ok (.arraylength, 1)) (k : ow_W X cs sl h (pc + 1) lv (.int (nI N) :: st)) : ow_W X cs sl h pc lv (.ref a :: st) := by
  obtain ⟨p, l, e, R, s, m, args, below, meth, c, Q, D, A⟩ := X
  obtain ⟨hx, hb, hown, hts, hK, hA, hml, hR0⟩ := E
  intro H locs ls hR hD hSS hl
  exact va_tlen hx hb hT hSS rfl dd (k H locs ls hR hD hSS hl)
/-- 'throw new E(text)' -/
def ox_tw (own : String) (ik ic c : Nat) (names : List String) : Prop := Cond.classLink own ik (ow_ex c) ∈ ow_T ∧ Cond.initialized (ow_ex c) ∈ ow_T ∧ (∀ w ∈ (vx_atS own ic (ow_ex c) names).filter goodWord, w ∈ ow_T) ∧ (∀ w ∈ (vx_atS own ic (ow_ex c) names).filter (fun w => !goodWord w), w ∈ Cond.castable (ow_ex c) (ow_ex c) :: gl_ds.map (fun q => Cond.declares (Bundle.initS q))) ∧ (∀ w ∈ Cond.classLink own ik (ow_ex c) :: Cond.initialized (ow_ex c) :: vx_atS own ic (ow_ex c) names, vx_ot w = true) ∧ Bundle.fit (ow_ex c) = true ∧ (∀ n ∈ names, Bundle.fit n = true) ∧ ow_ex c ∈ gl_es ∧ names.length ≤ 4
theorem or_throwS {S : Nat → Option ow_Sh} {I : ow_I} {V : Nat → Nat → Value} {z : Nat} {c ik is ic sa : Nat} {text : String} {names : List String} (E : ow_E X own cc nL (ow_rm kR mcR msR)) (G : og_G X Z) (F : ox_F X h0 K mcR msR retR nmR) (w : ox_tw own ik ic c names) (hc : 0 < c) (hstr : og_u X (vk_R own is text sa))
    (d0 : decode cc pc = .ok (.new ik, 3)) (d3 : decode cc (pc + 3) = .ok (.dup, 1)) (d4 : decode cc (pc + 4) = .ok (.ldc is, 2)) (d6 : decode cc (pc + 6) = .ok (.invokespecial ic, 3)) (d9 : decode cc (pc + 9) = .ok (.athrow, 1)) (hk : 8 ≤ kR) (hst : (st.map fun v => v.category).sum ≤ 8) (hcs : cs + 1 ≤ mcR) (hsl : sl + 6 ≤ msR)
    (kk : ∀ z', z ≤ z' → K c none (S, I, V, z')) : ow_W X cs sl (S, I, V, z) pc lv st := by
  obtain ⟨p, l, e, R, s, m, args, below, meth, cd, Q, D, A⟩ := X
  obtain ⟨hx, hb, hown, hts, hK, hA, hml, rfl⟩ := E
  obtain ⟨rfl, rfl, hr, hlocks, hnm, hex⟩ := F
  obtain ⟨w1, w2, w3, w4, w5, w6, w7, w8, w9⟩ := w
  intro H locs ls hR hD hSS hl
  have hg := G.1
  refine vx_throwS (cls := ow_ex c) (names := names) (is := is) (ic := ic) (ik := ik) (text := text) (sa := sa) hx hb G.2 hown w6 w7 (hts _ w1) (hts _ w2) hstr ?_ w5 hg.2.2.2.2.2.1 hg.2.2.2.2.2.2.1 hSS hl.1 d0 d3 d4 d6 d9 (fun x hx => (hex x hx).elim) ?_ ?_ hcs hsl hlocks ?_ hSS.2.2 hcs hsl
  · exact vx_hat (fun w hw => hts w (w3 w hw)) w4 (vx_c (va_Nw.use rfl (hg.2.2.2.2.2.2.2.2.2.2.2.2.1 _ w8)) (fun w hw => by
      obtain ⟨q, hq, rfl⟩ := List.mem_map.mp hw
      exact va_Nw.use rfl (hg.2.2.2.2.2.2.2.2.2.2.2.2.2.2.2.2 _ hq)))
  · show names.length + 3 < kR
    omega
  · show (st.map fun v => v.category).sum + (13 * (names.length + 1) + 43) ≤ 40 * kR
    omega
  · intro t hvm hz hq
    refine ⟨⟨c, (S, I, V, t.heap.size), rfl, hc, kk _ (by have := hR.2; simp only at this; omega), hR.grow hvm hq, hD⟩, Nat.le_trans hSS.1 hz, fun q h1 h2 => ?_⟩
    rw [hq q (Nat.lt_of_lt_of_le h1 hSS.1)]
    exact hSS.2.1 q h1 h2
/-- a callee's start: the globals as they are here -/
theorem ox_gl {D : va_G} {s U : State} {A : Nat → Prop} {H : Heap} {locs : List Loc} (hg : gl_G Z A s s.heap) (hR : ow_R D s h H) (hD : ∀ (q : Nat) (sh : ow_Sh), h.1 q = some sh → A q) (hA : ∀ q, s.heap.size ≤ q → A q) (hSS : va_S A s.heap H locs) (hU : U.heap = H) (hW : s.WarmedH U.vm) : gl_G Z (ow_Dm h) U U.heap := by
  rw [hU]
  refine gl_G.warm hW ((hg.kept hSS.2.1).narrow (fun q hq => ?_))
  rcases hq with ⟨sh, hq⟩ | hq
  · exact hD q sh hq
  · exact hA q (Nat.le_trans hSS.1 (by rw [hR.2]; exact hq))
/-- behind a call of a method that may throw -/
theorem ox_after {p : Program} {l : Launch} {e : Env} {R : Room} {s : State} {m : MethodId} {args : Array Value} {below : List Frame} {meth : Method} {c : Code} {Q : State → Prop} {D : va_G} {A : Nat → Prop} {mc ms : Nat} {H : Heap} {locs : List Loc} {ls : Array Slot} {st0 : List Value} {a : Array Value} {Kc : Nat → Option Value → ow_H → Prop}
    (F : ox_F (p, l, e, R, s, m, args, below, meth, c, Q, D, A) h0 K mcR msR retR nmR)
    (hR : ow_R D s h H) (hD : ∀ (q : Nat) (sh : ow_Sh), h.1 q = some sh → A q) (hA : ∀ q, s.heap.size ≤ q → A q) (hSS : va_S A s.heap H locs) (hl : lv_has ls c.maxLocals lv) (hm : cs + mc ≤ mcR ∧ sl + ms ≤ msR)
    (hr : vx_Run p l e R s m args below meth c H locs cs sl mc ms (F0 m pc ls st0) st (ow_Qc D (fun r h1 => Kc 0 r h1) h a) (ox_XC D Kc h) (ow_Dm h))
    (kk : ∀ (r : Option Value) (h1 : ow_H), Kc 0 r h1 → ow_W (p, l, e, R, s, m, args, below, meth, c, Q, D, A) (cs + mc) (sl + ms) h1 (pc + 3) lv (r.toList ++ st))
    (kx : ∀ (c' : Nat) (h1 : ow_H), 0 < c' → Kc c' none h1 → K c' none h1) : W p l e R s m args below meth c H locs cs sl Q (F0 m pc ls st0) := by
  have hDA : ∀ q, ow_Dm h q → A q := fun q hq => by
    rcases hq with ⟨sh, hq⟩ | hq
    · exact hD q sh hq
    · exact hA q (Nat.le_trans hSS.1 (by rw [hR.2]; exact hq))
  intro T hT X
  rcases hr T hT X with ⟨v, st₀, t, T', L, g0, X', hL, e1, e2, ⟨⟨r, h1, hv, hk, hR1, hd1⟩, hz, hk1⟩, stp⟩ | ⟨q, st₀, t, T', L, E, ce, g0, X', hL, e1, e2, ⟨⟨c', h1, rfl, hc', hk, hR1, hd1⟩, hz, hk1⟩, hce, hcv, hcl, stp⟩
  · cases hv
    rw [g0] at hz hk1
    obtain ⟨t2, a1, b1⟩ := kk v h1 hk T'.heap (locs ++ L) ls (by rw [e1]; exact hR1.moved (by rw [← e2]; exact X'.warmed.alike.symm)) (fun q sh hq => hDA q (hd1 q sh hq))
      ⟨Nat.le_trans hSS.1 (by rw [e1]; exact hz), fun q g1 g2 => by rw [e1, hk1 q (Nat.lt_of_lt_of_le g1 hSS.1) (fun z => g2 (hDA q z))]; exact hSS.2.1 q g1 g2, fun q hq => by
        rcases List.mem_append.mp hq with h | h
        · exact hSS.2.2 q h
        · exact hDA _ (hL q h)⟩ hl T' rfl X'
    exact ⟨t2, stp t2 a1, b1⟩
  · obtain ⟨rfl, rfl, hr, hlocks, hnm, hex⟩ := F
    rw [g0] at hz hk1
    have hS1 : va_S (ow_Dm h0) s.heap T'.heap (locs ++ L) := ⟨Nat.le_trans hSS.1 (by rw [e1]; exact hz), fun q g1 g2 => by rw [e1, hk1 q (Nat.lt_of_lt_of_le g1 hSS.1) (fun z => g2 (hDA q z))]; exact hSS.2.1 q g1 g2, fun q hq => by
        rcases List.mem_append.mp hq with h | h
        · exact hSS.2.2 q h
        · exact hDA _ (hL q h)⟩
    have hR2 : ow_R D s h1 T'.heap := by rw [e1]; exact hR1.moved (by rw [← e2]; exact X'.warmed.alike.symm)
    have ho := vx_out (p := p) (l := l) (e := e) (R := R) (s := s) (m := m) (args := args) (below := below) (meth := meth) (c := c) (H := T'.heap) (locs := locs ++ L) (cells := cs + mc) (slots := sl + ms) (free := ow_Dm h0) (ls := ls) (rest := st) (Qc := ow_Qc D (fun r h1 => K 0 r h1) h0) (XC := ox_XC D K h0) (pc := pc) (E := ow_ex c') (ce := ce) (q := q) (mc := mcR) (ms := msR)
      (fun x hx => (hex x hx).elim) hlocks (by rw [e1]; exact hce) hcv hcl (fun t3 ht3 hvm3 => ⟨⟨c', h1, rfl, hc', kx c' h1 hc' hk, by rw [ht3]; exact hR2.moved hvm3, fun q sh hq => hDA q (hd1 q sh hq)⟩, by rw [ht3]; exact hS1.1, fun q g1 g2 => by rw [ht3]; exact hS1.2.1 q g1 g2⟩) hS1.2.2 hm.1 hm.2
    obtain ⟨t2, a1, b1⟩ := ho T' rfl X'
    exact ⟨t2, stp.trans a1, b1⟩
variable {y : MethodName} {cy : ByteArray} {n idx k mc ms na : Nat} {ret : Option FieldType} {Kc : Nat → Option Value → ow_H → Prop}
theorem or_xV {b ci : Nat} {κ : Nat → Option (Option Value)} {r0 : vw_C} (As : List Value) (hC : ow_Cx Z y cy n ret k mc ms (.ref b :: As) h Kc) (E : ow_E X own cc nL (ow_rm kR mcR msR)) (G : og_G X Z) (F : ox_F X h0 K mcR msR retR nmR) (L : ow_lv own idx y cy n ret na) (d : decode cc pc = .ok (.invokevirtual idx, 3)) (hS : h.1 b = some (.inl (ci, κ))) (hc : ow_cl[ci]? = some r0) (hy : r0.1 = y.cls)
    (hn : As.length = na) (hk : k + 1 ≤ kR) (hn2 : n ≤ 20) (hm : cs + mc ≤ mcR ∧ sl + ms ≤ msR) (hst : (st.map fun v => v.category).sum ≤ 8)
    (kk : ∀ (r : Option Value) (h1 : ow_H), Kc 0 r h1 → ow_W X (cs + mc) (sl + ms) h1 (pc + 3) lv (r.toList ++ st)) (kx : ∀ (c' : Nat) (h1 : ow_H), 0 < c' → Kc c' none h1 → K c' none h1) : ow_W X cs sl h pc lv (As.reverse ++ .ref b :: st) := by
  obtain ⟨p, l, e, R, s, m, args, below, meth, c, Q, D, A⟩ := X
  obtain ⟨hx, hb, hown, hts, hK, hA, hml, rfl⟩ := E
  obtain ⟨w1, w2, w3, w4, w5, w6⟩ := L
  intro H locs ls hR hD hSS hl
  have hGI : GoodIn ow_T (wsV own idx y.cls y (Cond.code y cy n ret :: ow_T)) := fun w hw => by
    have hw' : w = Cond.methodLink own idx y ∨ w = Cond.instanceMethod y ∨ w = Cond.selects y.cls y y ∨ w = Cond.initialized y.cls ∨ w ∈ (Cond.code y cy n ret :: ow_T) := by simpa [wsV] using hw
    rcases hw' with rfl | rfl | rfl | rfl | h1
    · exact ow_T_good _ w1
    · exact ow_T_good _ w2
    · exact ow_T_good _ w3
    · exact ow_T_good _ w4
    · exact ow_good_code w5 w h1
  have cw := cwV (R := ow_rm kR mcR msR) (rm := ow_rm k mc ms) (mc := mc) (ms := ms) na hts hGI rfl rfl rfl ⟨rfl, w6⟩ ⟨hk, by show 8 + (n + 11) + 40 * k ≤ 40 * kR; omega⟩
  refine ox_after F hR hD hA hSS hl hm (vx_runV (As := As) (rest := st) ⟨hx, hb, rfl, hown, hts⟩ (hC l D G.2) cw ⟨ox_Pc_blind Z D _ h, by have := ow_recv hK hR hS hc; rw [hy] at this; exact this, fun U hU hW => ⟨⟨rfl, by rw [hU]; exact hR.moved hW.alike, va_K.moved hW.alike hK⟩, ox_gl G.1 hR hD hA hSS hU hW⟩⟩ rfl hn hl.1 rfl (lv_room hst) d hm) kk kx
/-- the same, of a receiver among the globals -/
theorem or_xVg {b : Nat} (As : List Value) (hC : ow_Cx Z y cy n ret k mc ms (.ref b :: As) h Kc) (E : ow_E X own cc nL (ow_rm kR mcR msR)) (G : og_G X Z) (F : ox_F X h0 K mcR msR retR nmR) (L : ow_lv own idx y cy n ret na) (d : decode cc pc = .ok (.invokevirtual idx, 3)) (hO : og_f X (va_O y.cls b))
    (hn : As.length = na) (hk : k + 1 ≤ kR) (hn2 : n ≤ 20) (hm : cs + mc ≤ mcR ∧ sl + ms ≤ msR) (hst : (st.map fun v => v.category).sum ≤ 8)
    (kk : ∀ (r : Option Value) (h1 : ow_H), Kc 0 r h1 → ow_W X (cs + mc) (sl + ms) h1 (pc + 3) lv (r.toList ++ st)) (kx : ∀ (c' : Nat) (h1 : ow_H), 0 < c' → Kc c' none h1 → K c' none h1) : ow_W X cs sl h pc lv (As.reverse ++ .ref b :: st) := by
  obtain ⟨p, l, e, R, s, m, args, below, meth, c, Q, D, A⟩ := X
  obtain ⟨hx, hb, hown, hts, hK, hA, hml, rfl⟩ := E
  obtain ⟨w1, w2, w3, w4, w5, w6⟩ := L
  intro H locs ls hR hD hSS hl
  have hGI : GoodIn ow_T (wsV own idx y.cls y (Cond.code y cy n ret :: ow_T)) := fun w hw => by
    have hw' : w = Cond.methodLink own idx y ∨ w = Cond.instanceMethod y ∨ w = Cond.selects y.cls y y ∨ w = Cond.initialized y.cls ∨ w ∈ (Cond.code y cy n ret :: ow_T) := by simpa [wsV] using hw
    rcases hw' with rfl | rfl | rfl | rfl | h1
    · exact ow_T_good _ w1
    · exact ow_T_good _ w2
    · exact ow_T_good _ w3
    · exact ow_T_good _ w4
    · exact ow_good_code w5 w h1
  have cw := cwV (R := ow_rm kR mcR msR) (rm := ow_rm k mc ms) (mc := mc) (ms := ms) na hts hGI rfl rfl rfl ⟨rfl, w6⟩ ⟨hk, by show 8 + (n + 11) + 40 * k ≤ 40 * kR; omega⟩
  refine ox_after F hR hD hA hSS hl hm (vx_runV (As := As) (rest := st) ⟨hx, hb, rfl, hown, hts⟩ (hC l D G.2) cw ⟨ox_Pc_blind Z D _ h, va_Orecv hO hSS, fun U hU hW => ⟨⟨rfl, by rw [hU]; exact hR.moved hW.alike, va_K.moved hW.alike hK⟩, ox_gl G.1 hR hD hA hSS hU hW⟩⟩ rfl hn hl.1 rfl (lv_room hst) d hm) kk kx
/-- invokestatic, of any class -/
def ow_lt (own : String) (idx : Nat) (y : MethodName) (cy : ByteArray) (n : Nat) (ret : Option FieldType) (na : Nat) : Prop := Cond.methodLink own idx y ∈ ow_T ∧ Cond.static y ∈ ow_T ∧ Cond.initialized y.cls ∈ ow_T ∧ Cond.code y cy n ret ∈ ow_T ∧ ow_mx y na
theorem or_xT (As : List Value) (hC : ow_Cx Z y cy n ret k mc ms As h Kc) (E : ow_E X own cc nL (ow_rm kR mcR msR)) (G : og_G X Z) (F : ox_F X h0 K mcR msR retR nmR) (L : ow_lt own idx y cy n ret na) (d : decode cc pc = .ok (.invokestatic idx, 3))
    (hn : As.length = na) (hk : k + 1 ≤ kR) (hn2 : n ≤ 20) (hm : cs + mc ≤ mcR ∧ sl + ms ≤ msR) (hst : (st.map fun v => v.category).sum ≤ 8)
    (kk : ∀ (r : Option Value) (h1 : ow_H), Kc 0 r h1 → ow_W X (cs + mc) (sl + ms) h1 (pc + 3) lv (r.toList ++ st)) (kx : ∀ (c' : Nat) (h1 : ow_H), 0 < c' → Kc c' none h1 → K c' none h1) : ow_W X cs sl h pc lv (As.reverse ++ st) := by
  obtain ⟨p, l, e, R, s, m, args, below, meth, c, Q, D, A⟩ := X
  obtain ⟨hx, hb, hown, hts, hK, hA, hml, rfl⟩ := E
  obtain ⟨w1, w2, w3, w4, w5⟩ := L
  intro H locs ls hR hD hSS hl
  have hGI : GoodIn ow_T (va_wsS own idx y (Cond.code y cy n ret :: ow_T)) := fun w hw => by
    have hw' : w = Cond.methodLink own idx y ∨ w = Cond.static y ∨ w = Cond.initialized y.cls ∨ w ∈ (Cond.code y cy n ret :: ow_T) := by simpa [va_wsS] using hw
    rcases hw' with rfl | rfl | rfl | h1
    · exact ow_T_good _ w1
    · exact ow_T_good _ w2
    · exact ow_T_good _ w3
    · exact ow_good_code w4 w h1
  have cw := va_cwS (R := ow_rm kR mcR msR) (rm := ow_rm k mc ms) (mc := mc) (ms := ms) na hts hGI rfl rfl rfl w5 ⟨hk, by show 8 + (n + 11) + 40 * k ≤ 40 * kR; omega⟩
  refine ox_after F hR hD hA hSS hl hm (vx_runS (As := As) (rest := st) ⟨hx, hb, rfl, hown, hts⟩ (hC l D G.2) cw ⟨ox_Pc_blind Z D _ h, fun U hU hW => ⟨⟨rfl, by rw [hU]; exact hR.moved hW.alike, va_K.moved hW.alike hK⟩, ox_gl G.1 hR hD hA hSS hU hW⟩⟩ rfl hn hl.1 rfl (lv_room hst) d hm) kk kx
end OX
