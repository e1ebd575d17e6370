theorem fr_this {m p k : Nat} {lo hi : Int32} {I : ow_I} (h : k < 6 ∨ 7 < k) : (M_failsAtThis m p lo hi I).2 m k = I m k := by
  simp only [M_failsAtThis, lt_eq]
  (repeat' split) <;> simp (disch := omega) only [fr_fails, ow_u_a]
theorem rr_this {m p a : Nat} {lo hi : Int32} {I : ow_I} (h : a ≠ m) (h4 : a ≠ m + 4) : (M_failsAtThis m p lo hi I).2 a = I a := by
  funext j
  simp only [M_failsAtThis, lt_eq]
  (repeat' split) <;> simp (disch := omega) only [rr_fails, ow_u_a]
theorem W_this {m p : Nat} {lo hi : Int32} {I : ow_I} (hw : md_W m I) : md_W m (M_failsAtThis m p lo hi I).2 := by
  simp only [M_failsAtThis, lt_eq]
  (repeat' split)
  · exact mdW_row hw (by funext j; exact ow_u_a _ _ _ _ (by omega) j)
  · exact W_fails hw
  · exact W_fails hw
theorem fr_num {m p k : Nat} {lo hi : Int32} {I : ow_I} (h : k < 6 ∨ 11 < k) : (M_failsAtNumber m p lo hi I).2 m k = I m k := by
  simp (disch := omega) only [M_failsAtNumber, lt_eq, fr_this, fr_readToken]
theorem rr_num {m p a : Nat} {lo hi : Int32} {I : ow_I} (h : a ≠ m) (h4 : a ≠ m + 4) : (M_failsAtNumber m p lo hi I).2 a = I a := by
  simp only [M_failsAtNumber, lt_eq, rr_this h h4, rr_readToken h]
theorem W_num {m p : Nat} {lo hi : Int32} {I : ow_I} (ht : md_T m I) : md_W m (M_failsAtNumber m p lo hi I).2 := W_this (W_readToken ht)
theorem fr_end {m k : Nat} {I : ow_I} (h : k < 6 ∨ 11 < k) : (M_failsAtEnd m I).2 m k = I m k := by
  simp only [M_failsAtEnd, lt_eq]
  (repeat' split) <;> simp (disch := omega) only [fr_fails, fr_readToken]
theorem rr_end {m a : Nat} {I : ow_I} (h : a ≠ m) : (M_failsAtEnd m I).2 a = I a := by
  simp only [M_failsAtEnd, lt_eq]
  (repeat' split) <;> simp only [rr_fails h, rr_readToken h]
theorem W_end {m : Nat} {I : ow_I} (hw : md_W m I) : md_W m (M_failsAtEnd m I).2 := by
  simp only [M_failsAtEnd, lt_eq]
  (repeat' split)
  · exact W_readToken hw.1
  · exact W_fails hw
theorem fr_next {m k : Nat} {I : ow_I} (h : k < 6 ∨ 11 < k) : (M_failsAtNext m I).2 m k = I m k := by
  simp (disch := omega) only [M_failsAtNext, lt_eq, fr_end, fr_readToken]
theorem rr_next {m a : Nat} {I : ow_I} (h : a ≠ m) : (M_failsAtNext m I).2 a = I a := by
  simp only [M_failsAtNext, lt_eq, rr_end h, rr_readToken h]
theorem W_next {m : Nat} {I : ow_I} (ht : md_T m I) : md_W m (M_failsAtNext m I).2 := W_end (W_readToken ht)
theorem rr_bmL {m a : Nat} {a0 a1 a2 a3 a4 : Int32} (h : a ≠ m + 1) : ∀ (n : Nat) (I : ow_I) (i : Nat), M_beginMarket_L3 m a0 a1 a2 a3 a4 n I i a = I a := by
  intro n
  induction n with
  | zero => intro I i; rfl
  | succ n ih =>
    intro I i
    funext j
    simp only [M_beginMarket_L3, lt_eq]
    (repeat' split) <;> simp [ih, ow_u_a, h]
theorem rr_begin {m a : Nat} {a0 a1 a2 a3 a4 : Int32} {I : ow_I} (h : a ≠ m + 1) : M_beginMarket m a0 a1 a2 a3 a4 I a = I a := rr_bmL h _ _ _
theorem rr_put {m b w a : Nat} {x : Int32} {I : ow_I} (h : a ≠ m + 1) : M_put m b w x I a = I a := by
  funext j; exact ow_u_a _ _ _ _ h j
theorem rr_putB {m b w a : Nat} {x : Int32} {I : ow_I} (h : a ≠ m + 1) : M_putBarrel m b w x I a = I a := by
  funext j; exact ow_u_a _ _ _ _ h j
theorem rr_u {f : ow_I} {a b k : Nat} {x : Int32} (h : a ≠ b) : ow_u f b k x a = f a := by
  funext j; exact ow_u_a _ _ _ _ h j
theorem rr_addBuyer {m a : Nat} {p s f : Int32} {I : ow_I} (h : a ≠ m + 1) : M_addBuyer m p s f I a = I a := by
  simp only [M_addBuyer, lt_eq, rr_u h, rr_put h]
theorem rr_enqueue {m b a : Nat} {I : ow_I} (h : a ≠ m + 1) : M_enqueue m b I a = I a := by
  simp only [M_enqueue, lt_eq, rr_u h, rr_putB h]
theorem rr_newBarrel {m a : Nat} {r : Int32} {I : ow_I} (h : a ≠ m + 1) : (M_newBarrel m r I).2 a = I a := by
  simp only [M_newBarrel, lt_eq, rr_u h, rr_putB h, rr_enqueue h]
theorem rr_addEel {m b a : Nat} {x : Int32} {I : ow_I} (h : a ≠ m + 1) : M_addEel m b x I a = I a := by
  simp only [M_addEel, lt_eq, rr_putB h]
