/-! WHAT THE REFERENCE'S METHODS LEAVE: other rows -/
def fM (m : Nat) (J J' : ow_I) : Prop := (∀ b, (b < m ∨ b = m + 6 ∨ m + 8 ≤ b) → J' b = J b) ∧ J' m 17 = J m 17
section FRM
variable {m : Nat} {J X Y : ow_I}
theorem fM_r : fM m J J := ⟨fun _ _ => rfl, rfl⟩
theorem fM_of (h : fM m J X) (g : ∀ b, (b < m ∨ b = m + 6 ∨ m + 8 ≤ b) → Y b = X b) (g17 : Y m 17 = X m 17) : fM m J Y := ⟨fun b hb => (g b hb).trans (h.1 b hb), g17.trans h.2⟩
theorem fM_k {k : Nat} {v : Int32} (hk : k ≠ 17) (h : fM m J X) : fM m J (ow_u X m k v) := fM_of h (fun b hb => rr_u (by omega)) (by rw [u_one, if_neg (Ne.symm hk)])
theorem fM_18 {v : Int32} (h : fM m J X) : fM m J (ow_u X m 18 v) := fM_of h (fun b hb => rr_u (by omega)) (by rw [u_one, if_neg (by decide)])
theorem fM_1 {k : Nat} {v : Int32} (h : fM m J X) : fM m J (ow_u X (m + 1) k v) := fM_of h (fun b hb => rr_u (by omega)) (by rw [rr_u (by omega)])
theorem fM_2 {k : Nat} {v : Int32} (h : fM m J X) : fM m J (ow_u X (m + 2) k v) := fM_of h (fun b hb => rr_u (by omega)) (by rw [rr_u (by omega)])
theorem fM_lb {v : Int32} (h : fM m J X) : fM m J (M_lacksBarrel m v X).2 := by
  simp only [M_lacksBarrel, lt_eq]
  split
  · exact fM_18 h
  · exact fM_18 (fM_18 h)
theorem fM_ly {v : Int32} (h : fM m J X) : fM m J (M_lacksBuyer m v X).2 := by
  simp only [M_lacksBuyer, lt_eq]
  split
  · exact fM_18 h
  · exact fM_18 (fM_18 h)
theorem fM_cb {f t : Nat} (h : fM m J X) : fM m J (M_copyBlock m f t X) := fM_of h (fun b hb => rr_cb (by omega)) (by rw [rr_cb (by omega)])
theorem fM_kp {k : Nat} (h : fM m J X) : fM m J (M_keep m k X) := by
  simp only [M_keep, lt_eq]
  split <;> exact fM_cb (fM_k (by decide) h)
theorem fM_et {v : Int32} (h : fM m J X) : fM m J (M_endTrial m v X).2 := by
  simp only [M_endTrial, lt_eq]
  exact fM_cb h
theorem fM_pb {b w : Nat} {v : Int32} (h : fM m J X) : fM m J (M_putBarrel m b w v X) := fM_of h (fun b hb => rr_putB (by omega)) (by rw [rr_putB (by omega)])
theorem fM_pt {b w : Nat} {v : Int32} (h : fM m J X) : fM m J (M_put m b w v X) := fM_of h (fun b hb => rr_put (by omega)) (by rw [rr_put (by omega)])
theorem fM_nn {b : Nat} (h : fM m J X) : fM m J (M_nodNow m b X).2 := by
  simp only [M_nodNow, lt_eq]
  exact fM_pt (fM_1 (fM_1 (fM_1 h)))
theorem fM_dq {b : Nat} (h : fM m J X) : fM m J (M_dequeue m b X) := fM_of h (fun b hb => rr_dq (by omega)) (by rw [rr_dq (by omega)])
theorem fM_wd {b : Nat} (h : fM m J X) : fM m J (M_withdrawNow m b X).2 := by
  simp only [M_withdrawNow, lt_eq]
  exact fM_pb (fM_dq h)
theorem fM_fd {b : Nat} {v : Int32} (h : fM m J X) : fM m J (M_fundNow m b v X).2 := by
  simp only [M_fundNow, lt_eq]
  split <;> exact fM_1 (fM_pt h)
theorem fM_ae {b : Nat} {v : Int32} (h : fM m J X) : fM m J (M_addEel m b v X) := fM_of h (fun b hb => rr_addEel (by omega)) (by rw [rr_addEel (by omega)])
theorem fM_nb {v : Int32} (h : fM m J X) : fM m J (M_newBarrel m v X).2 := fM_of h (fun b hb => rr_newBarrel (by omega)) (by rw [rr_newBarrel (by omega)])
theorem fM_spL {b e : Nat} : ∀ (n : Nat) (X : ow_I) (n3 : Nat) (r s : Int32) (p j : Nat), fM m J X → fM m J (M_splitNow_L40 m b e n X n3 r s p j).2 := by
  intro n
  induction n with
  | zero => intro X n3 r s p j h; exact h
  | succ n ih =>
    intro X n3 r s p j h
    unfold M_splitNow_L40
    split
    · exact fM_pb (fM_pb h)
    · exact ih _ _ _ _ _ _ (fM_ae h)
theorem fM_sp {b e : Nat} (h : fM m J X) : fM m J (M_splitNow m b e X).2 := by
  unfold M_splitNow
  rw [lt_eq]
  exact fM_spL _ _ _ _ _ _ _ (fM_nb h)
theorem fM_cl (h : fM m J X) : fM m J (M_closeBarrel m X) := by
  simp only [M_closeBarrel, M_turnBack, M_sell, M_enqueue, M_put, M_putBarrel, lt_eq]
  (repeat' split) <;> (repeat (first | with_reducible exact h | with_reducible refine fM_1 ?_))
theorem fM_op (h : fM m J X) : fM m J (M_openFirst m X) := by
  simp only [M_openFirst, lt_eq]
  split
  · exact h
  · exact fM_1 (fM_1 (fM_1 (fM_1 (fM_pb (fM_dq h)))))
theorem fM_th (h : fM m J X) : fM m J (M_think m X) := by
  simp only [M_think, lt_eq]
  split
  · split
    · exact fM_1 h
    · exact fM_cl (fM_1 h)
  · exact fM_nn h
theorem fM_p1 (h : fM m J X) : fM m J (M_passOne m X) := by
  simp only [M_passOne, lt_eq]
  (repeat' split) <;> (repeat (first | with_reducible exact h | with_reducible refine fM_1 ?_ | with_reducible refine fM_th ?_ | with_reducible refine fM_op ?_ | with_reducible refine fM_cl ?_))
theorem fM_paL {n2 : Nat} {c : Int32} : ∀ (n : Nat) (X : ow_I) (i : Nat), fM m J X → fM m J (M_passAll_L8 m n2 n X c i).2 := by
  intro n
  induction n with
  | zero => intro X i h; exact h
  | succ n ih =>
    intro X i h
    unfold M_passAll_L8
    split
    · exact h
    · exact ih _ _ (fM_p1 h)
theorem fM_pa {n : Nat} (h : fM m J X) : fM m J (M_passAll m n X).2 := fM_paL _ _ _ h
theorem fM_cw {s : Int32} {n : Nat} (h : fM m J X) : fM m J (M_coinsWith m s n X).2 := by
  simp only [M_coinsWith, lt_eq]
  exact fM_et (fM_pa (fM_1 (fM_cb h)))
theorem fM_awL {w : Int32} : ∀ (n : Nat) (X : ow_I) (s : Int32), fM m J X → fM m J (M_appendWord_L3 m w n X s) := by
  intro n
  induction n with
  | zero => intro X s h; exact h
  | succ n ih =>
    intro X s h
    unfold M_appendWord_L3
    split
    · exact h
    · exact ih _ _ (fM_of h (fun b hb => by rw [rr_u (by omega), rr_u (by omega)]) (by rw [u_one, if_neg (by decide), rr_u (by omega)]))
theorem fM_aw {w : Int32} (h : fM m J X) : fM m J (M_appendWord m w X) := fM_awL _ _ _ h
theorem kb_2 {b : Int32} : ∀ (n : Nat) (X : ow_I) (k i : Nat), (M_keenestBuyer_L14 m b n X k i).2 = X := by
  intro n
  induction n with
  | zero => intro X k i; rfl
  | succ n ih =>
    intro X k i
    unfold M_keenestBuyer_L14
    split
    · rfl
    · split <;> exact ih _ _ _
theorem ce_2 : ∀ (n : Nat) (X : ow_I) (c : Int32) (i : Nat), (M_coinError_L23 m n X c i).2 = X := by
  intro n
  induction n with
  | zero => intro X c i; rfl
  | succ n ih =>
    intro X c i
    unfold M_coinError_L23
    split
    · rfl
    · exact ih _ _ _
theorem ml_2 : ∀ (n : Nat) (X : ow_I) (e s : Int32) (i : Nat), (M_meanLength_L11 m n X e s i).2 = X := by
  intro n
  induction n with
  | zero => intro X e s i; rfl
  | succ n ih =>
    intro X e s i
    unfold M_meanLength_L11
    split
    · split <;> rfl
    · exact ih _ _ _ _
theorem mh_2 : ∀ (n : Nat) (X : ow_I) (i : Nat), (M_minutesToHorn_L7 m n X i).2 = X := by
  intro n
  induction n with
  | zero => intro X i; rfl
  | succ n ih =>
    intro X i
    unfold M_minutesToHorn_L7
    split
    · rfl
    · split
      · rfl
      · exact ih _ _
theorem fM_errorCode : fM m J (M_errorCode m J).2 := by
  simp only [M_errorCode, lt_eq]
  (repeat' split) <;> (try dsimp only) <;> (repeat (first | with_reducible exact fM_r | with_reducible refine fM_18 ?_ | with_reducible refine fM_lb ?_ | with_reducible refine fM_ly ?_ | with_reducible refine fM_kp ?_ | with_reducible refine fM_1 ?_ | with_reducible refine fM_2 ?_ | with_reducible refine fM_k (by decide) ?_ | with_reducible refine fM_cb ?_ | with_reducible refine fM_pa ?_ | with_reducible refine fM_et ?_ | with_reducible refine fM_nn ?_ | with_reducible refine fM_sp ?_ | with_reducible refine fM_wd ?_ | with_reducible refine fM_fd ?_ | with_reducible refine fM_pb ?_ | with_reducible refine fM_pt ?_ | with_reducible refine fM_aw ?_ | with_reducible refine fM_cw ?_))
theorem fM_errorPosition : fM m J (M_errorPosition m J).2 := by
  simp only [M_errorPosition, lt_eq]
  (repeat' split) <;> (try dsimp only) <;> (repeat (first | with_reducible exact fM_r | with_reducible refine fM_18 ?_ | with_reducible refine fM_lb ?_ | with_reducible refine fM_ly ?_ | with_reducible refine fM_kp ?_ | with_reducible refine fM_1 ?_ | with_reducible refine fM_2 ?_ | with_reducible refine fM_k (by decide) ?_ | with_reducible refine fM_cb ?_ | with_reducible refine fM_pa ?_ | with_reducible refine fM_et ?_ | with_reducible refine fM_nn ?_ | with_reducible refine fM_sp ?_ | with_reducible refine fM_wd ?_ | with_reducible refine fM_fd ?_ | with_reducible refine fM_pb ?_ | with_reducible refine fM_pt ?_ | with_reducible refine fM_aw ?_ | with_reducible refine fM_cw ?_))
theorem fM_minute : fM m J (M_minute m J).2 := by
  simp only [M_minute, lt_eq]
  (repeat' split) <;> (try dsimp only) <;> (repeat (first | with_reducible exact fM_r | with_reducible refine fM_18 ?_ | with_reducible refine fM_lb ?_ | with_reducible refine fM_ly ?_ | with_reducible refine fM_kp ?_ | with_reducible refine fM_1 ?_ | with_reducible refine fM_2 ?_ | with_reducible refine fM_k (by decide) ?_ | with_reducible refine fM_cb ?_ | with_reducible refine fM_pa ?_ | with_reducible refine fM_et ?_ | with_reducible refine fM_nn ?_ | with_reducible refine fM_sp ?_ | with_reducible refine fM_wd ?_ | with_reducible refine fM_fd ?_ | with_reducible refine fM_pb ?_ | with_reducible refine fM_pt ?_ | with_reducible refine fM_aw ?_ | with_reducible refine fM_cw ?_))
theorem fM_step : fM m J (M_step m J).2 := by
  simp only [M_step, lt_eq]
  (repeat' split) <;> (try dsimp only) <;> (repeat (first | with_reducible exact fM_r | with_reducible refine fM_18 ?_ | with_reducible refine fM_lb ?_ | with_reducible refine fM_ly ?_ | with_reducible refine fM_kp ?_ | with_reducible refine fM_1 ?_ | with_reducible refine fM_2 ?_ | with_reducible refine fM_k (by decide) ?_ | with_reducible refine fM_cb ?_ | with_reducible refine fM_pa ?_ | with_reducible refine fM_et ?_ | with_reducible refine fM_nn ?_ | with_reducible refine fM_sp ?_ | with_reducible refine fM_wd ?_ | with_reducible refine fM_fd ?_ | with_reducible refine fM_pb ?_ | with_reducible refine fM_pt ?_ | with_reducible refine fM_aw ?_ | with_reducible refine fM_cw ?_))
theorem fM_sellerCoins : fM m J (M_sellerCoins m J).2 := by
  simp only [M_sellerCoins, lt_eq]
  (repeat' split) <;> (try dsimp only) <;> (repeat (first | with_reducible exact fM_r | with_reducible refine fM_18 ?_ | with_reducible refine fM_lb ?_ | with_reducible refine fM_ly ?_ | with_reducible refine fM_kp ?_ | with_reducible refine fM_1 ?_ | with_reducible refine fM_2 ?_ | with_reducible refine fM_k (by decide) ?_ | with_reducible refine fM_cb ?_ | with_reducible refine fM_pa ?_ | with_reducible refine fM_et ?_ | with_reducible refine fM_nn ?_ | with_reducible refine fM_sp ?_ | with_reducible refine fM_wd ?_ | with_reducible refine fM_fd ?_ | with_reducible refine fM_pb ?_ | with_reducible refine fM_pt ?_ | with_reducible refine fM_aw ?_ | with_reducible refine fM_cw ?_))
theorem fM_houseCoins : fM m J (M_houseCoins m J).2 := by
  simp only [M_houseCoins, lt_eq]
  (repeat' split) <;> (try dsimp only) <;> (repeat (first | with_reducible exact fM_r | with_reducible refine fM_18 ?_ | with_reducible refine fM_lb ?_ | with_reducible refine fM_ly ?_ | with_reducible refine fM_kp ?_ | with_reducible refine fM_1 ?_ | with_reducible refine fM_2 ?_ | with_reducible refine fM_k (by decide) ?_ | with_reducible refine fM_cb ?_ | with_reducible refine fM_pa ?_ | with_reducible refine fM_et ?_ | with_reducible refine fM_nn ?_ | with_reducible refine fM_sp ?_ | with_reducible refine fM_wd ?_ | with_reducible refine fM_fd ?_ | with_reducible refine fM_pb ?_ | with_reducible refine fM_pt ?_ | with_reducible refine fM_aw ?_ | with_reducible refine fM_cw ?_))
theorem fM_openBarrel : fM m J (M_openBarrel m J).2 := by
  simp only [M_openBarrel, lt_eq]
  (repeat' split) <;> (try dsimp only) <;> (repeat (first | with_reducible exact fM_r | with_reducible refine fM_18 ?_ | with_reducible refine fM_lb ?_ | with_reducible refine fM_ly ?_ | with_reducible refine fM_kp ?_ | with_reducible refine fM_1 ?_ | with_reducible refine fM_2 ?_ | with_reducible refine fM_k (by decide) ?_ | with_reducible refine fM_cb ?_ | with_reducible refine fM_pa ?_ | with_reducible refine fM_et ?_ | with_reducible refine fM_nn ?_ | with_reducible refine fM_sp ?_ | with_reducible refine fM_wd ?_ | with_reducible refine fM_fd ?_ | with_reducible refine fM_pb ?_ | with_reducible refine fM_pt ?_ | with_reducible refine fM_aw ?_ | with_reducible refine fM_cw ?_))
theorem fM_bid : fM m J (M_bid m J).2 := by
  simp only [M_bid, lt_eq]
  (repeat' split) <;> (try dsimp only) <;> (repeat (first | with_reducible exact fM_r | with_reducible refine fM_18 ?_ | with_reducible refine fM_lb ?_ | with_reducible refine fM_ly ?_ | with_reducible refine fM_kp ?_ | with_reducible refine fM_1 ?_ | with_reducible refine fM_2 ?_ | with_reducible refine fM_k (by decide) ?_ | with_reducible refine fM_cb ?_ | with_reducible refine fM_pa ?_ | with_reducible refine fM_et ?_ | with_reducible refine fM_nn ?_ | with_reducible refine fM_sp ?_ | with_reducible refine fM_wd ?_ | with_reducible refine fM_fd ?_ | with_reducible refine fM_pb ?_ | with_reducible refine fM_pt ?_ | with_reducible refine fM_aw ?_ | with_reducible refine fM_cw ?_))
theorem fM_leader : fM m J (M_leader m J).2 := by
  simp only [M_leader, lt_eq]
  (repeat' split) <;> (try dsimp only) <;> (repeat (first | with_reducible exact fM_r | with_reducible refine fM_18 ?_ | with_reducible refine fM_lb ?_ | with_reducible refine fM_ly ?_ | with_reducible refine fM_kp ?_ | with_reducible refine fM_1 ?_ | with_reducible refine fM_2 ?_ | with_reducible refine fM_k (by decide) ?_ | with_reducible refine fM_cb ?_ | with_reducible refine fM_pa ?_ | with_reducible refine fM_et ?_ | with_reducible refine fM_nn ?_ | with_reducible refine fM_sp ?_ | with_reducible refine fM_wd ?_ | with_reducible refine fM_fd ?_ | with_reducible refine fM_pb ?_ | with_reducible refine fM_pt ?_ | with_reducible refine fM_aw ?_ | with_reducible refine fM_cw ?_))
theorem fM_queueLength : fM m J (M_queueLength m J).2 := by
  simp only [M_queueLength, lt_eq]
  (repeat' split) <;> (try dsimp only) <;> (repeat (first | with_reducible exact fM_r | with_reducible refine fM_18 ?_ | with_reducible refine fM_lb ?_ | with_reducible refine fM_ly ?_ | with_reducible refine fM_kp ?_ | with_reducible refine fM_1 ?_ | with_reducible refine fM_2 ?_ | with_reducible refine fM_k (by decide) ?_ | with_reducible refine fM_cb ?_ | with_reducible refine fM_pa ?_ | with_reducible refine fM_et ?_ | with_reducible refine fM_nn ?_ | with_reducible refine fM_sp ?_ | with_reducible refine fM_wd ?_ | with_reducible refine fM_fd ?_ | with_reducible refine fM_pb ?_ | with_reducible refine fM_pt ?_ | with_reducible refine fM_aw ?_ | with_reducible refine fM_cw ?_))
theorem fM_barrelCount : fM m J (M_barrelCount m J).2 := by
  simp only [M_barrelCount, lt_eq]
  (repeat' split) <;> (try dsimp only) <;> (repeat (first | with_reducible exact fM_r | with_reducible refine fM_18 ?_ | with_reducible refine fM_lb ?_ | with_reducible refine fM_ly ?_ | with_reducible refine fM_kp ?_ | with_reducible refine fM_1 ?_ | with_reducible refine fM_2 ?_ | with_reducible refine fM_k (by decide) ?_ | with_reducible refine fM_cb ?_ | with_reducible refine fM_pa ?_ | with_reducible refine fM_et ?_ | with_reducible refine fM_nn ?_ | with_reducible refine fM_sp ?_ | with_reducible refine fM_wd ?_ | with_reducible refine fM_fd ?_ | with_reducible refine fM_pb ?_ | with_reducible refine fM_pt ?_ | with_reducible refine fM_aw ?_ | with_reducible refine fM_cw ?_))
theorem fM_buyerCount : fM m J (M_buyerCount m J).2 := by
  simp only [M_buyerCount, lt_eq]
  (repeat' split) <;> (try dsimp only) <;> (repeat (first | with_reducible exact fM_r | with_reducible refine fM_18 ?_ | with_reducible refine fM_lb ?_ | with_reducible refine fM_ly ?_ | with_reducible refine fM_kp ?_ | with_reducible refine fM_1 ?_ | with_reducible refine fM_2 ?_ | with_reducible refine fM_k (by decide) ?_ | with_reducible refine fM_cb ?_ | with_reducible refine fM_pa ?_ | with_reducible refine fM_et ?_ | with_reducible refine fM_nn ?_ | with_reducible refine fM_sp ?_ | with_reducible refine fM_wd ?_ | with_reducible refine fM_fd ?_ | with_reducible refine fM_pb ?_ | with_reducible refine fM_pt ?_ | with_reducible refine fM_aw ?_ | with_reducible refine fM_cw ?_))
theorem fM_isOpen : fM m J (M_isOpen m J).2 := by
  simp only [M_isOpen, lt_eq]
  (repeat' split) <;> (try dsimp only) <;> (repeat (first | with_reducible exact fM_r | with_reducible refine fM_18 ?_ | with_reducible refine fM_lb ?_ | with_reducible refine fM_ly ?_ | with_reducible refine fM_kp ?_ | with_reducible refine fM_1 ?_ | with_reducible refine fM_2 ?_ | with_reducible refine fM_k (by decide) ?_ | with_reducible refine fM_cb ?_ | with_reducible refine fM_pa ?_ | with_reducible refine fM_et ?_ | with_reducible refine fM_nn ?_ | with_reducible refine fM_sp ?_ | with_reducible refine fM_wd ?_ | with_reducible refine fM_fd ?_ | with_reducible refine fM_pb ?_ | with_reducible refine fM_pt ?_ | with_reducible refine fM_aw ?_ | with_reducible refine fM_cw ?_))
theorem fM_nextBid : fM m J (M_nextBid m J).2 := by
  simp only [M_nextBid, lt_eq]
  (repeat' split) <;> (try dsimp only) <;> (repeat (first | with_reducible exact fM_r | with_reducible refine fM_18 ?_ | with_reducible refine fM_lb ?_ | with_reducible refine fM_ly ?_ | with_reducible refine fM_kp ?_ | with_reducible refine fM_1 ?_ | with_reducible refine fM_2 ?_ | with_reducible refine fM_k (by decide) ?_ | with_reducible refine fM_cb ?_ | with_reducible refine fM_pa ?_ | with_reducible refine fM_et ?_ | with_reducible refine fM_nn ?_ | with_reducible refine fM_sp ?_ | with_reducible refine fM_wd ?_ | with_reducible refine fM_fd ?_ | with_reducible refine fM_pb ?_ | with_reducible refine fM_pt ?_ | with_reducible refine fM_aw ?_ | with_reducible refine fM_cw ?_))
theorem fM_quiet : fM m J (M_quiet m J).2 := by
  simp only [M_quiet, lt_eq]
  (repeat' split) <;> (try dsimp only) <;> (repeat (first | with_reducible exact fM_r | with_reducible refine fM_18 ?_ | with_reducible refine fM_lb ?_ | with_reducible refine fM_ly ?_ | with_reducible refine fM_kp ?_ | with_reducible refine fM_1 ?_ | with_reducible refine fM_2 ?_ | with_reducible refine fM_k (by decide) ?_ | with_reducible refine fM_cb ?_ | with_reducible refine fM_pa ?_ | with_reducible refine fM_et ?_ | with_reducible refine fM_nn ?_ | with_reducible refine fM_sp ?_ | with_reducible refine fM_wd ?_ | with_reducible refine fM_fd ?_ | with_reducible refine fM_pb ?_ | with_reducible refine fM_pt ?_ | with_reducible refine fM_aw ?_ | with_reducible refine fM_cw ?_))
theorem fM_nextNodder : fM m J (M_nextNodder m J).2 := by
  simp only [M_nextNodder, lt_eq]
  (repeat' split) <;> (try dsimp only) <;> (repeat (first | with_reducible exact fM_r | with_reducible refine fM_18 ?_ | with_reducible refine fM_lb ?_ | with_reducible refine fM_ly ?_ | with_reducible refine fM_kp ?_ | with_reducible refine fM_1 ?_ | with_reducible refine fM_2 ?_ | with_reducible refine fM_k (by decide) ?_ | with_reducible refine fM_cb ?_ | with_reducible refine fM_pa ?_ | with_reducible refine fM_et ?_ | with_reducible refine fM_nn ?_ | with_reducible refine fM_sp ?_ | with_reducible refine fM_wd ?_ | with_reducible refine fM_fd ?_ | with_reducible refine fM_pb ?_ | with_reducible refine fM_pt ?_ | with_reducible refine fM_aw ?_ | with_reducible refine fM_cw ?_))
theorem fM_coinError : fM m J (M_coinError m J).2 := by
  simp only [M_coinError, lt_eq, ce_2]
  (repeat' split) <;> (try dsimp only) <;> (repeat (first | with_reducible exact fM_r | with_reducible refine fM_18 ?_ | with_reducible refine fM_lb ?_ | with_reducible refine fM_ly ?_ | with_reducible refine fM_kp ?_ | with_reducible refine fM_1 ?_ | with_reducible refine fM_2 ?_ | with_reducible refine fM_k (by decide) ?_ | with_reducible refine fM_cb ?_ | with_reducible refine fM_pa ?_ | with_reducible refine fM_et ?_ | with_reducible refine fM_nn ?_ | with_reducible refine fM_sp ?_ | with_reducible refine fM_wd ?_ | with_reducible refine fM_fd ?_ | with_reducible refine fM_pb ?_ | with_reducible refine fM_pt ?_ | with_reducible refine fM_aw ?_ | with_reducible refine fM_cw ?_))
theorem fM_soldShare : fM m J (M_soldShare m J).2 := by
  simp only [M_soldShare, lt_eq]
  (repeat' split) <;> (try dsimp only) <;> (repeat (first | with_reducible exact fM_r | with_reducible refine fM_18 ?_ | with_reducible refine fM_lb ?_ | with_reducible refine fM_ly ?_ | with_reducible refine fM_kp ?_ | with_reducible refine fM_1 ?_ | with_reducible refine fM_2 ?_ | with_reducible refine fM_k (by decide) ?_ | with_reducible refine fM_cb ?_ | with_reducible refine fM_pa ?_ | with_reducible refine fM_et ?_ | with_reducible refine fM_nn ?_ | with_reducible refine fM_sp ?_ | with_reducible refine fM_wd ?_ | with_reducible refine fM_fd ?_ | with_reducible refine fM_pb ?_ | with_reducible refine fM_pt ?_ | with_reducible refine fM_aw ?_ | with_reducible refine fM_cw ?_))
theorem fM_meanLength : fM m J (M_meanLength m J).2 := by
  simp only [M_meanLength, lt_eq, ml_2]
  (repeat' split) <;> (try dsimp only) <;> (repeat (first | with_reducible exact fM_r | with_reducible refine fM_18 ?_ | with_reducible refine fM_lb ?_ | with_reducible refine fM_ly ?_ | with_reducible refine fM_kp ?_ | with_reducible refine fM_1 ?_ | with_reducible refine fM_2 ?_ | with_reducible refine fM_k (by decide) ?_ | with_reducible refine fM_cb ?_ | with_reducible refine fM_pa ?_ | with_reducible refine fM_et ?_ | with_reducible refine fM_nn ?_ | with_reducible refine fM_sp ?_ | with_reducible refine fM_wd ?_ | with_reducible refine fM_fd ?_ | with_reducible refine fM_pb ?_ | with_reducible refine fM_pt ?_ | with_reducible refine fM_aw ?_ | with_reducible refine fM_cw ?_))
theorem fM_minutesToHorn : fM m J (M_minutesToHorn m J).2 := by
  simp only [M_minutesToHorn, lt_eq, mh_2]
  (repeat' split) <;> (try dsimp only) <;> (repeat (first | with_reducible exact fM_r | with_reducible refine fM_18 ?_ | with_reducible refine fM_lb ?_ | with_reducible refine fM_ly ?_ | with_reducible refine fM_kp ?_ | with_reducible refine fM_1 ?_ | with_reducible refine fM_2 ?_ | with_reducible refine fM_k (by decide) ?_ | with_reducible refine fM_cb ?_ | with_reducible refine fM_pa ?_ | with_reducible refine fM_et ?_ | with_reducible refine fM_nn ?_ | with_reducible refine fM_sp ?_ | with_reducible refine fM_wd ?_ | with_reducible refine fM_fd ?_ | with_reducible refine fM_pb ?_ | with_reducible refine fM_pt ?_ | with_reducible refine fM_aw ?_ | with_reducible refine fM_cw ?_))
theorem fM_undo : fM m J (M_undo m J).2 := by
  simp only [M_undo, lt_eq]
  (repeat' split) <;> (try dsimp only) <;> (repeat (first | with_reducible exact fM_r | with_reducible refine fM_18 ?_ | with_reducible refine fM_lb ?_ | with_reducible refine fM_ly ?_ | with_reducible refine fM_kp ?_ | with_reducible refine fM_1 ?_ | with_reducible refine fM_2 ?_ | with_reducible refine fM_k (by decide) ?_ | with_reducible refine fM_cb ?_ | with_reducible refine fM_pa ?_ | with_reducible refine fM_et ?_ | with_reducible refine fM_nn ?_ | with_reducible refine fM_sp ?_ | with_reducible refine fM_wd ?_ | with_reducible refine fM_fd ?_ | with_reducible refine fM_pb ?_ | with_reducible refine fM_pt ?_ | with_reducible refine fM_aw ?_ | with_reducible refine fM_cw ?_))
theorem fM_queuedBarrel {a : Int32} : fM m J (M_queuedBarrel m a J).2 := by
  simp only [M_queuedBarrel, lt_eq]
  (repeat' split) <;> (try dsimp only) <;> (repeat (first | with_reducible exact fM_r | with_reducible refine fM_18 ?_ | with_reducible refine fM_lb ?_ | with_reducible refine fM_ly ?_ | with_reducible refine fM_kp ?_ | with_reducible refine fM_1 ?_ | with_reducible refine fM_2 ?_ | with_reducible refine fM_k (by decide) ?_ | with_reducible refine fM_cb ?_ | with_reducible refine fM_pa ?_ | with_reducible refine fM_et ?_ | with_reducible refine fM_nn ?_ | with_reducible refine fM_sp ?_ | with_reducible refine fM_wd ?_ | with_reducible refine fM_fd ?_ | with_reducible refine fM_pb ?_ | with_reducible refine fM_pt ?_ | with_reducible refine fM_aw ?_ | with_reducible refine fM_cw ?_))
theorem fM_costOf {a : Int32} : fM m J (M_costOf m a J).2 := by
  simp only [M_costOf, lt_eq]
  (repeat' split) <;> (try dsimp only) <;> (repeat (first | with_reducible exact fM_r | with_reducible refine fM_18 ?_ | with_reducible refine fM_lb ?_ | with_reducible refine fM_ly ?_ | with_reducible refine fM_kp ?_ | with_reducible refine fM_1 ?_ | with_reducible refine fM_2 ?_ | with_reducible refine fM_k (by decide) ?_ | with_reducible refine fM_cb ?_ | with_reducible refine fM_pa ?_ | with_reducible refine fM_et ?_ | with_reducible refine fM_nn ?_ | with_reducible refine fM_sp ?_ | with_reducible refine fM_wd ?_ | with_reducible refine fM_fd ?_ | with_reducible refine fM_pb ?_ | with_reducible refine fM_pt ?_ | with_reducible refine fM_aw ?_ | with_reducible refine fM_cw ?_))
theorem fM_eels {a : Int32} : fM m J (M_eels m a J).2 := by
  simp only [M_eels, lt_eq]
  (repeat' split) <;> (try dsimp only) <;> (repeat (first | with_reducible exact fM_r | with_reducible refine fM_18 ?_ | with_reducible refine fM_lb ?_ | with_reducible refine fM_ly ?_ | with_reducible refine fM_kp ?_ | with_reducible refine fM_1 ?_ | with_reducible refine fM_2 ?_ | with_reducible refine fM_k (by decide) ?_ | with_reducible refine fM_cb ?_ | with_reducible refine fM_pa ?_ | with_reducible refine fM_et ?_ | with_reducible refine fM_nn ?_ | with_reducible refine fM_sp ?_ | with_reducible refine fM_wd ?_ | with_reducible refine fM_fd ?_ | with_reducible refine fM_pb ?_ | with_reducible refine fM_pt ?_ | with_reducible refine fM_aw ?_ | with_reducible refine fM_cw ?_))
theorem fM_reserve {a : Int32} : fM m J (M_reserve m a J).2 := by
  simp only [M_reserve, lt_eq]
  (repeat' split) <;> (try dsimp only) <;> (repeat (first | with_reducible exact fM_r | with_reducible refine fM_18 ?_ | with_reducible refine fM_lb ?_ | with_reducible refine fM_ly ?_ | with_reducible refine fM_kp ?_ | with_reducible refine fM_1 ?_ | with_reducible refine fM_2 ?_ | with_reducible refine fM_k (by decide) ?_ | with_reducible refine fM_cb ?_ | with_reducible refine fM_pa ?_ | with_reducible refine fM_et ?_ | with_reducible refine fM_nn ?_ | with_reducible refine fM_sp ?_ | with_reducible refine fM_wd ?_ | with_reducible refine fM_fd ?_ | with_reducible refine fM_pb ?_ | with_reducible refine fM_pt ?_ | with_reducible refine fM_aw ?_ | with_reducible refine fM_cw ?_))
theorem fM_returns {a : Int32} : fM m J (M_returns m a J).2 := by
  simp only [M_returns, lt_eq]
  (repeat' split) <;> (try dsimp only) <;> (repeat (first | with_reducible exact fM_r | with_reducible refine fM_18 ?_ | with_reducible refine fM_lb ?_ | with_reducible refine fM_ly ?_ | with_reducible refine fM_kp ?_ | with_reducible refine fM_1 ?_ | with_reducible refine fM_2 ?_ | with_reducible refine fM_k (by decide) ?_ | with_reducible refine fM_cb ?_ | with_reducible refine fM_pa ?_ | with_reducible refine fM_et ?_ | with_reducible refine fM_nn ?_ | with_reducible refine fM_sp ?_ | with_reducible refine fM_wd ?_ | with_reducible refine fM_fd ?_ | with_reducible refine fM_pb ?_ | with_reducible refine fM_pt ?_ | with_reducible refine fM_aw ?_ | with_reducible refine fM_cw ?_))
theorem fM_stateOf {a : Int32} : fM m J (M_stateOf m a J).2 := by
  simp only [M_stateOf, lt_eq]
  (repeat' split) <;> (try dsimp only) <;> (repeat (first | with_reducible exact fM_r | with_reducible refine fM_18 ?_ | with_reducible refine fM_lb ?_ | with_reducible refine fM_ly ?_ | with_reducible refine fM_kp ?_ | with_reducible refine fM_1 ?_ | with_reducible refine fM_2 ?_ | with_reducible refine fM_k (by decide) ?_ | with_reducible refine fM_cb ?_ | with_reducible refine fM_pa ?_ | with_reducible refine fM_et ?_ | with_reducible refine fM_nn ?_ | with_reducible refine fM_sp ?_ | with_reducible refine fM_wd ?_ | with_reducible refine fM_fd ?_ | with_reducible refine fM_pb ?_ | with_reducible refine fM_pt ?_ | with_reducible refine fM_aw ?_ | with_reducible refine fM_cw ?_))
theorem fM_buyerOf {a : Int32} : fM m J (M_buyerOf m a J).2 := by
  simp only [M_buyerOf, lt_eq]
  (repeat' split) <;> (try dsimp only) <;> (repeat (first | with_reducible exact fM_r | with_reducible refine fM_18 ?_ | with_reducible refine fM_lb ?_ | with_reducible refine fM_ly ?_ | with_reducible refine fM_kp ?_ | with_reducible refine fM_1 ?_ | with_reducible refine fM_2 ?_ | with_reducible refine fM_k (by decide) ?_ | with_reducible refine fM_cb ?_ | with_reducible refine fM_pa ?_ | with_reducible refine fM_et ?_ | with_reducible refine fM_nn ?_ | with_reducible refine fM_sp ?_ | with_reducible refine fM_wd ?_ | with_reducible refine fM_fd ?_ | with_reducible refine fM_pb ?_ | with_reducible refine fM_pt ?_ | with_reducible refine fM_aw ?_ | with_reducible refine fM_cw ?_))
theorem fM_priceOf {a : Int32} : fM m J (M_priceOf m a J).2 := by
  simp only [M_priceOf, lt_eq]
  (repeat' split) <;> (try dsimp only) <;> (repeat (first | with_reducible exact fM_r | with_reducible refine fM_18 ?_ | with_reducible refine fM_lb ?_ | with_reducible refine fM_ly ?_ | with_reducible refine fM_kp ?_ | with_reducible refine fM_1 ?_ | with_reducible refine fM_2 ?_ | with_reducible refine fM_k (by decide) ?_ | with_reducible refine fM_cb ?_ | with_reducible refine fM_pa ?_ | with_reducible refine fM_et ?_ | with_reducible refine fM_nn ?_ | with_reducible refine fM_sp ?_ | with_reducible refine fM_wd ?_ | with_reducible refine fM_fd ?_ | with_reducible refine fM_pb ?_ | with_reducible refine fM_pt ?_ | with_reducible refine fM_aw ?_ | with_reducible refine fM_cw ?_))
theorem fM_totalLength {a : Int32} : fM m J (M_totalLength m a J).2 := by
  simp only [M_totalLength, lt_eq]
  (repeat' split) <;> (try dsimp only) <;> (repeat (first | with_reducible exact fM_r | with_reducible refine fM_18 ?_ | with_reducible refine fM_lb ?_ | with_reducible refine fM_ly ?_ | with_reducible refine fM_kp ?_ | with_reducible refine fM_1 ?_ | with_reducible refine fM_2 ?_ | with_reducible refine fM_k (by decide) ?_ | with_reducible refine fM_cb ?_ | with_reducible refine fM_pa ?_ | with_reducible refine fM_et ?_ | with_reducible refine fM_nn ?_ | with_reducible refine fM_sp ?_ | with_reducible refine fM_wd ?_ | with_reducible refine fM_fd ?_ | with_reducible refine fM_pb ?_ | with_reducible refine fM_pt ?_ | with_reducible refine fM_aw ?_ | with_reducible refine fM_cw ?_))
theorem fM_greatestLength {a : Int32} : fM m J (M_greatestLength m a J).2 := by
  simp only [M_greatestLength, lt_eq]
  (repeat' split) <;> (try dsimp only) <;> (repeat (first | with_reducible exact fM_r | with_reducible refine fM_18 ?_ | with_reducible refine fM_lb ?_ | with_reducible refine fM_ly ?_ | with_reducible refine fM_kp ?_ | with_reducible refine fM_1 ?_ | with_reducible refine fM_2 ?_ | with_reducible refine fM_k (by decide) ?_ | with_reducible refine fM_cb ?_ | with_reducible refine fM_pa ?_ | with_reducible refine fM_et ?_ | with_reducible refine fM_nn ?_ | with_reducible refine fM_sp ?_ | with_reducible refine fM_wd ?_ | with_reducible refine fM_fd ?_ | with_reducible refine fM_pb ?_ | with_reducible refine fM_pt ?_ | with_reducible refine fM_aw ?_ | with_reducible refine fM_cw ?_))
theorem fM_middleLength {a : Int32} : fM m J (M_middleLength m a J).2 := by
  simp only [M_middleLength, lt_eq]
  (repeat' split) <;> (try dsimp only) <;> (repeat (first | with_reducible exact fM_r | with_reducible refine fM_18 ?_ | with_reducible refine fM_lb ?_ | with_reducible refine fM_ly ?_ | with_reducible refine fM_kp ?_ | with_reducible refine fM_1 ?_ | with_reducible refine fM_2 ?_ | with_reducible refine fM_k (by decide) ?_ | with_reducible refine fM_cb ?_ | with_reducible refine fM_pa ?_ | with_reducible refine fM_et ?_ | with_reducible refine fM_nn ?_ | with_reducible refine fM_sp ?_ | with_reducible refine fM_wd ?_ | with_reducible refine fM_fd ?_ | with_reducible refine fM_pb ?_ | with_reducible refine fM_pt ?_ | with_reducible refine fM_aw ?_ | with_reducible refine fM_cw ?_))
theorem fM_pricePerLength {a : Int32} : fM m J (M_pricePerLength m a J).2 := by
  simp only [M_pricePerLength, lt_eq]
  (repeat' split) <;> (try dsimp only) <;> (repeat (first | with_reducible exact fM_r | with_reducible refine fM_18 ?_ | with_reducible refine fM_lb ?_ | with_reducible refine fM_ly ?_ | with_reducible refine fM_kp ?_ | with_reducible refine fM_1 ?_ | with_reducible refine fM_2 ?_ | with_reducible refine fM_k (by decide) ?_ | with_reducible refine fM_cb ?_ | with_reducible refine fM_pa ?_ | with_reducible refine fM_et ?_ | with_reducible refine fM_nn ?_ | with_reducible refine fM_sp ?_ | with_reducible refine fM_wd ?_ | with_reducible refine fM_fd ?_ | with_reducible refine fM_pb ?_ | with_reducible refine fM_pt ?_ | with_reducible refine fM_aw ?_ | with_reducible refine fM_cw ?_))
theorem fM_purse {a : Int32} : fM m J (M_purse m a J).2 := by
  simp only [M_purse, lt_eq]
  (repeat' split) <;> (try dsimp only) <;> (repeat (first | with_reducible exact fM_r | with_reducible refine fM_18 ?_ | with_reducible refine fM_lb ?_ | with_reducible refine fM_ly ?_ | with_reducible refine fM_kp ?_ | with_reducible refine fM_1 ?_ | with_reducible refine fM_2 ?_ | with_reducible refine fM_k (by decide) ?_ | with_reducible refine fM_cb ?_ | with_reducible refine fM_pa ?_ | with_reducible refine fM_et ?_ | with_reducible refine fM_nn ?_ | with_reducible refine fM_sp ?_ | with_reducible refine fM_wd ?_ | with_reducible refine fM_fd ?_ | with_reducible refine fM_pb ?_ | with_reducible refine fM_pt ?_ | with_reducible refine fM_aw ?_ | with_reducible refine fM_cw ?_))
theorem fM_style {a : Int32} : fM m J (M_style m a J).2 := by
  simp only [M_style, lt_eq]
  (repeat' split) <;> (try dsimp only) <;> (repeat (first | with_reducible exact fM_r | with_reducible refine fM_18 ?_ | with_reducible refine fM_lb ?_ | with_reducible refine fM_ly ?_ | with_reducible refine fM_kp ?_ | with_reducible refine fM_1 ?_ | with_reducible refine fM_2 ?_ | with_reducible refine fM_k (by decide) ?_ | with_reducible refine fM_cb ?_ | with_reducible refine fM_pa ?_ | with_reducible refine fM_et ?_ | with_reducible refine fM_nn ?_ | with_reducible refine fM_sp ?_ | with_reducible refine fM_wd ?_ | with_reducible refine fM_fd ?_ | with_reducible refine fM_pb ?_ | with_reducible refine fM_pt ?_ | with_reducible refine fM_aw ?_ | with_reducible refine fM_cw ?_))
theorem fM_factor {a : Int32} : fM m J (M_factor m a J).2 := by
  simp only [M_factor, lt_eq]
  (repeat' split) <;> (try dsimp only) <;> (repeat (first | with_reducible exact fM_r | with_reducible refine fM_18 ?_ | with_reducible refine fM_lb ?_ | with_reducible refine fM_ly ?_ | with_reducible refine fM_kp ?_ | with_reducible refine fM_1 ?_ | with_reducible refine fM_2 ?_ | with_reducible refine fM_k (by decide) ?_ | with_reducible refine fM_cb ?_ | with_reducible refine fM_pa ?_ | with_reducible refine fM_et ?_ | with_reducible refine fM_nn ?_ | with_reducible refine fM_sp ?_ | with_reducible refine fM_wd ?_ | with_reducible refine fM_fd ?_ | with_reducible refine fM_pb ?_ | with_reducible refine fM_pt ?_ | with_reducible refine fM_aw ?_ | with_reducible refine fM_cw ?_))
theorem fM_bought {a : Int32} : fM m J (M_bought m a J).2 := by
  simp only [M_bought, lt_eq]
  (repeat' split) <;> (try dsimp only) <;> (repeat (first | with_reducible exact fM_r | with_reducible refine fM_18 ?_ | with_reducible refine fM_lb ?_ | with_reducible refine fM_ly ?_ | with_reducible refine fM_kp ?_ | with_reducible refine fM_1 ?_ | with_reducible refine fM_2 ?_ | with_reducible refine fM_k (by decide) ?_ | with_reducible refine fM_cb ?_ | with_reducible refine fM_pa ?_ | with_reducible refine fM_et ?_ | with_reducible refine fM_nn ?_ | with_reducible refine fM_sp ?_ | with_reducible refine fM_wd ?_ | with_reducible refine fM_fd ?_ | with_reducible refine fM_pb ?_ | with_reducible refine fM_pt ?_ | with_reducible refine fM_aw ?_ | with_reducible refine fM_cw ?_))
theorem fM_nods {a : Int32} : fM m J (M_nods m a J).2 := by
  simp only [M_nods, lt_eq]
  (repeat' split) <;> (try dsimp only) <;> (repeat (first | with_reducible exact fM_r | with_reducible refine fM_18 ?_ | with_reducible refine fM_lb ?_ | with_reducible refine fM_ly ?_ | with_reducible refine fM_kp ?_ | with_reducible refine fM_1 ?_ | with_reducible refine fM_2 ?_ | with_reducible refine fM_k (by decide) ?_ | with_reducible refine fM_cb ?_ | with_reducible refine fM_pa ?_ | with_reducible refine fM_et ?_ | with_reducible refine fM_nn ?_ | with_reducible refine fM_sp ?_ | with_reducible refine fM_wd ?_ | with_reducible refine fM_fd ?_ | with_reducible refine fM_pb ?_ | with_reducible refine fM_pt ?_ | with_reducible refine fM_aw ?_ | with_reducible refine fM_cw ?_))
theorem fM_whyNotNod {a : Int32} : fM m J (M_whyNotNod m a J).2 := by
  simp only [M_whyNotNod, lt_eq]
  (repeat' split) <;> (try dsimp only) <;> (repeat (first | with_reducible exact fM_r | with_reducible refine fM_18 ?_ | with_reducible refine fM_lb ?_ | with_reducible refine fM_ly ?_ | with_reducible refine fM_kp ?_ | with_reducible refine fM_1 ?_ | with_reducible refine fM_2 ?_ | with_reducible refine fM_k (by decide) ?_ | with_reducible refine fM_cb ?_ | with_reducible refine fM_pa ?_ | with_reducible refine fM_et ?_ | with_reducible refine fM_nn ?_ | with_reducible refine fM_sp ?_ | with_reducible refine fM_wd ?_ | with_reducible refine fM_fd ?_ | with_reducible refine fM_pb ?_ | with_reducible refine fM_pt ?_ | with_reducible refine fM_aw ?_ | with_reducible refine fM_cw ?_))
theorem fM_sellerCoinsAfter {a : Int32} : fM m J (M_sellerCoinsAfter m a J).2 := by
  simp only [M_sellerCoinsAfter, lt_eq]
  (repeat' split) <;> (try dsimp only) <;> (repeat (first | with_reducible exact fM_r | with_reducible refine fM_18 ?_ | with_reducible refine fM_lb ?_ | with_reducible refine fM_ly ?_ | with_reducible refine fM_kp ?_ | with_reducible refine fM_1 ?_ | with_reducible refine fM_2 ?_ | with_reducible refine fM_k (by decide) ?_ | with_reducible refine fM_cb ?_ | with_reducible refine fM_pa ?_ | with_reducible refine fM_et ?_ | with_reducible refine fM_nn ?_ | with_reducible refine fM_sp ?_ | with_reducible refine fM_wd ?_ | with_reducible refine fM_fd ?_ | with_reducible refine fM_pb ?_ | with_reducible refine fM_pt ?_ | with_reducible refine fM_aw ?_ | with_reducible refine fM_cw ?_))
theorem fM_nod {a : Int32} : fM m J (M_nod m a J).2 := by
  simp only [M_nod, lt_eq]
  (repeat' split) <;> (try dsimp only) <;> (repeat (first | with_reducible exact fM_r | with_reducible refine fM_18 ?_ | with_reducible refine fM_lb ?_ | with_reducible refine fM_ly ?_ | with_reducible refine fM_kp ?_ | with_reducible refine fM_1 ?_ | with_reducible refine fM_2 ?_ | with_reducible refine fM_k (by decide) ?_ | with_reducible refine fM_cb ?_ | with_reducible refine fM_pa ?_ | with_reducible refine fM_et ?_ | with_reducible refine fM_nn ?_ | with_reducible refine fM_sp ?_ | with_reducible refine fM_wd ?_ | with_reducible refine fM_fd ?_ | with_reducible refine fM_pb ?_ | with_reducible refine fM_pt ?_ | with_reducible refine fM_aw ?_ | with_reducible refine fM_cw ?_))
theorem fM_passMinutes {a : Int32} : fM m J (M_passMinutes m a J).2 := by
  simp only [M_passMinutes, lt_eq]
  (repeat' split) <;> (try dsimp only) <;> (repeat (first | with_reducible exact fM_r | with_reducible refine fM_18 ?_ | with_reducible refine fM_lb ?_ | with_reducible refine fM_ly ?_ | with_reducible refine fM_kp ?_ | with_reducible refine fM_1 ?_ | with_reducible refine fM_2 ?_ | with_reducible refine fM_k (by decide) ?_ | with_reducible refine fM_cb ?_ | with_reducible refine fM_pa ?_ | with_reducible refine fM_et ?_ | with_reducible refine fM_nn ?_ | with_reducible refine fM_sp ?_ | with_reducible refine fM_wd ?_ | with_reducible refine fM_fd ?_ | with_reducible refine fM_pb ?_ | with_reducible refine fM_pt ?_ | with_reducible refine fM_aw ?_ | with_reducible refine fM_cw ?_))
theorem fM_withdraw {a : Int32} : fM m J (M_withdraw m a J).2 := by
  simp only [M_withdraw, lt_eq]
  (repeat' split) <;> (try dsimp only) <;> (repeat (first | with_reducible exact fM_r | with_reducible refine fM_18 ?_ | with_reducible refine fM_lb ?_ | with_reducible refine fM_ly ?_ | with_reducible refine fM_kp ?_ | with_reducible refine fM_1 ?_ | with_reducible refine fM_2 ?_ | with_reducible refine fM_k (by decide) ?_ | with_reducible refine fM_cb ?_ | with_reducible refine fM_pa ?_ | with_reducible refine fM_et ?_ | with_reducible refine fM_nn ?_ | with_reducible refine fM_sp ?_ | with_reducible refine fM_wd ?_ | with_reducible refine fM_fd ?_ | with_reducible refine fM_pb ?_ | with_reducible refine fM_pt ?_ | with_reducible refine fM_aw ?_ | with_reducible refine fM_cw ?_))
theorem fM_setStep {a : Int32} : fM m J (M_setStep m a J).2 := by
  simp only [M_setStep, lt_eq]
  (repeat' split) <;> (try dsimp only) <;> (repeat (first | with_reducible exact fM_r | with_reducible refine fM_18 ?_ | with_reducible refine fM_lb ?_ | with_reducible refine fM_ly ?_ | with_reducible refine fM_kp ?_ | with_reducible refine fM_1 ?_ | with_reducible refine fM_2 ?_ | with_reducible refine fM_k (by decide) ?_ | with_reducible refine fM_cb ?_ | with_reducible refine fM_pa ?_ | with_reducible refine fM_et ?_ | with_reducible refine fM_nn ?_ | with_reducible refine fM_sp ?_ | with_reducible refine fM_wd ?_ | with_reducible refine fM_fd ?_ | with_reducible refine fM_pb ?_ | with_reducible refine fM_pt ?_ | with_reducible refine fM_aw ?_ | with_reducible refine fM_cw ?_))
theorem fM_restoreSnapshot {a : Int32} : fM m J (M_restoreSnapshot m a J).2 := by
  simp only [M_restoreSnapshot, lt_eq]
  (repeat' split) <;> (try dsimp only) <;> (repeat (first | with_reducible exact fM_r | with_reducible refine fM_18 ?_ | with_reducible refine fM_lb ?_ | with_reducible refine fM_ly ?_ | with_reducible refine fM_kp ?_ | with_reducible refine fM_1 ?_ | with_reducible refine fM_2 ?_ | with_reducible refine fM_k (by decide) ?_ | with_reducible refine fM_cb ?_ | with_reducible refine fM_pa ?_ | with_reducible refine fM_et ?_ | with_reducible refine fM_nn ?_ | with_reducible refine fM_sp ?_ | with_reducible refine fM_wd ?_ | with_reducible refine fM_fd ?_ | with_reducible refine fM_pb ?_ | with_reducible refine fM_pt ?_ | with_reducible refine fM_aw ?_ | with_reducible refine fM_cw ?_))
theorem fM_truncate {a : Int32} : fM m J (M_truncate m a J).2 := by
  simp only [M_truncate, lt_eq]
  (repeat' split) <;> (try dsimp only) <;> (repeat (first | with_reducible exact fM_r | with_reducible refine fM_18 ?_ | with_reducible refine fM_lb ?_ | with_reducible refine fM_ly ?_ | with_reducible refine fM_kp ?_ | with_reducible refine fM_1 ?_ | with_reducible refine fM_2 ?_ | with_reducible refine fM_k (by decide) ?_ | with_reducible refine fM_cb ?_ | with_reducible refine fM_pa ?_ | with_reducible refine fM_et ?_ | with_reducible refine fM_nn ?_ | with_reducible refine fM_sp ?_ | with_reducible refine fM_wd ?_ | with_reducible refine fM_fd ?_ | with_reducible refine fM_pb ?_ | with_reducible refine fM_pt ?_ | with_reducible refine fM_aw ?_ | with_reducible refine fM_cw ?_))
theorem fM_outputByte {a : Int32} : fM m J (M_outputByte m a J).2 := by
  simp only [M_outputByte, lt_eq]
  (repeat' split) <;> (try dsimp only) <;> (repeat (first | with_reducible exact fM_r | with_reducible refine fM_18 ?_ | with_reducible refine fM_lb ?_ | with_reducible refine fM_ly ?_ | with_reducible refine fM_kp ?_ | with_reducible refine fM_1 ?_ | with_reducible refine fM_2 ?_ | with_reducible refine fM_k (by decide) ?_ | with_reducible refine fM_cb ?_ | with_reducible refine fM_pa ?_ | with_reducible refine fM_et ?_ | with_reducible refine fM_nn ?_ | with_reducible refine fM_sp ?_ | with_reducible refine fM_wd ?_ | with_reducible refine fM_fd ?_ | with_reducible refine fM_pb ?_ | with_reducible refine fM_pt ?_ | with_reducible refine fM_aw ?_ | with_reducible refine fM_cw ?_))
theorem fM_length {a : Int32} {b : Int32} : fM m J (M_length m a b J).2 := by
  simp only [M_length, lt_eq]
  (repeat' split) <;> (try dsimp only) <;> (repeat (first | with_reducible exact fM_r | with_reducible refine fM_18 ?_ | with_reducible refine fM_lb ?_ | with_reducible refine fM_ly ?_ | with_reducible refine fM_kp ?_ | with_reducible refine fM_1 ?_ | with_reducible refine fM_2 ?_ | with_reducible refine fM_k (by decide) ?_ | with_reducible refine fM_cb ?_ | with_reducible refine fM_pa ?_ | with_reducible refine fM_et ?_ | with_reducible refine fM_nn ?_ | with_reducible refine fM_sp ?_ | with_reducible refine fM_wd ?_ | with_reducible refine fM_fd ?_ | with_reducible refine fM_pb ?_ | with_reducible refine fM_pt ?_ | with_reducible refine fM_aw ?_ | with_reducible refine fM_cw ?_))
theorem fM_worth {a : Int32} {b : Int32} : fM m J (M_worth m a b J).2 := by
  simp only [M_worth, lt_eq]
  (repeat' split) <;> (try dsimp only) <;> (repeat (first | with_reducible exact fM_r | with_reducible refine fM_18 ?_ | with_reducible refine fM_lb ?_ | with_reducible refine fM_ly ?_ | with_reducible refine fM_kp ?_ | with_reducible refine fM_1 ?_ | with_reducible refine fM_2 ?_ | with_reducible refine fM_k (by decide) ?_ | with_reducible refine fM_cb ?_ | with_reducible refine fM_pa ?_ | with_reducible refine fM_et ?_ | with_reducible refine fM_nn ?_ | with_reducible refine fM_sp ?_ | with_reducible refine fM_wd ?_ | with_reducible refine fM_fd ?_ | with_reducible refine fM_pb ?_ | with_reducible refine fM_pt ?_ | with_reducible refine fM_aw ?_ | with_reducible refine fM_cw ?_))
theorem fM_buyerAfter {a : Int32} {b : Int32} : fM m J (M_buyerAfter m a b J).2 := by
  simp only [M_buyerAfter, lt_eq]
  (repeat' split) <;> (try dsimp only) <;> (repeat (first | with_reducible exact fM_r | with_reducible refine fM_18 ?_ | with_reducible refine fM_lb ?_ | with_reducible refine fM_ly ?_ | with_reducible refine fM_kp ?_ | with_reducible refine fM_1 ?_ | with_reducible refine fM_2 ?_ | with_reducible refine fM_k (by decide) ?_ | with_reducible refine fM_cb ?_ | with_reducible refine fM_pa ?_ | with_reducible refine fM_et ?_ | with_reducible refine fM_nn ?_ | with_reducible refine fM_sp ?_ | with_reducible refine fM_wd ?_ | with_reducible refine fM_fd ?_ | with_reducible refine fM_pb ?_ | with_reducible refine fM_pt ?_ | with_reducible refine fM_aw ?_ | with_reducible refine fM_cw ?_))
theorem fM_split {a : Int32} {b : Int32} : fM m J (M_split m a b J).2 := by
  simp only [M_split, lt_eq]
  (repeat' split) <;> (try dsimp only) <;> (repeat (first | with_reducible exact fM_r | with_reducible refine fM_18 ?_ | with_reducible refine fM_lb ?_ | with_reducible refine fM_ly ?_ | with_reducible refine fM_kp ?_ | with_reducible refine fM_1 ?_ | with_reducible refine fM_2 ?_ | with_reducible refine fM_k (by decide) ?_ | with_reducible refine fM_cb ?_ | with_reducible refine fM_pa ?_ | with_reducible refine fM_et ?_ | with_reducible refine fM_nn ?_ | with_reducible refine fM_sp ?_ | with_reducible refine fM_wd ?_ | with_reducible refine fM_fd ?_ | with_reducible refine fM_pb ?_ | with_reducible refine fM_pt ?_ | with_reducible refine fM_aw ?_ | with_reducible refine fM_cw ?_))
theorem fM_fund {a : Int32} {b : Int32} : fM m J (M_fund m a b J).2 := by
  simp only [M_fund, lt_eq]
  (repeat' split) <;> (try dsimp only) <;> (repeat (first | with_reducible exact fM_r | with_reducible refine fM_18 ?_ | with_reducible refine fM_lb ?_ | with_reducible refine fM_ly ?_ | with_reducible refine fM_kp ?_ | with_reducible refine fM_1 ?_ | with_reducible refine fM_2 ?_ | with_reducible refine fM_k (by decide) ?_ | with_reducible refine fM_cb ?_ | with_reducible refine fM_pa ?_ | with_reducible refine fM_et ?_ | with_reducible refine fM_nn ?_ | with_reducible refine fM_sp ?_ | with_reducible refine fM_wd ?_ | with_reducible refine fM_fd ?_ | with_reducible refine fM_pb ?_ | with_reducible refine fM_pt ?_ | with_reducible refine fM_aw ?_ | with_reducible refine fM_cw ?_))
theorem fM_setReserve {a : Int32} {b : Int32} : fM m J (M_setReserve m a b J).2 := by
  simp only [M_setReserve, lt_eq]
  (repeat' split) <;> (try dsimp only) <;> (repeat (first | with_reducible exact fM_r | with_reducible refine fM_18 ?_ | with_reducible refine fM_lb ?_ | with_reducible refine fM_ly ?_ | with_reducible refine fM_kp ?_ | with_reducible refine fM_1 ?_ | with_reducible refine fM_2 ?_ | with_reducible refine fM_k (by decide) ?_ | with_reducible refine fM_cb ?_ | with_reducible refine fM_pa ?_ | with_reducible refine fM_et ?_ | with_reducible refine fM_nn ?_ | with_reducible refine fM_sp ?_ | with_reducible refine fM_wd ?_ | with_reducible refine fM_fd ?_ | with_reducible refine fM_pb ?_ | with_reducible refine fM_pt ?_ | with_reducible refine fM_aw ?_ | with_reducible refine fM_cw ?_))
theorem fM_setTaste {a : Int32} {b : Int32} {c : Int32} : fM m J (M_setTaste m a b c J).2 := by
  simp only [M_setTaste, lt_eq]
  (repeat' split) <;> (try dsimp only) <;> (repeat (first | with_reducible exact fM_r | with_reducible refine fM_18 ?_ | with_reducible refine fM_lb ?_ | with_reducible refine fM_ly ?_ | with_reducible refine fM_kp ?_ | with_reducible refine fM_1 ?_ | with_reducible refine fM_2 ?_ | with_reducible refine fM_k (by decide) ?_ | with_reducible refine fM_cb ?_ | with_reducible refine fM_pa ?_ | with_reducible refine fM_et ?_ | with_reducible refine fM_nn ?_ | with_reducible refine fM_sp ?_ | with_reducible refine fM_wd ?_ | with_reducible refine fM_fd ?_ | with_reducible refine fM_pb ?_ | with_reducible refine fM_pt ?_ | with_reducible refine fM_aw ?_ | with_reducible refine fM_cw ?_))
theorem fM_append {a : Int32} {b : Int32} {c : Int32} {d : Int32} {e : Int32} : fM m J (M_append m a b c d e J).2 := by
  simp only [M_append, lt_eq]
  (repeat' split) <;> (try dsimp only) <;> (repeat (first | with_reducible exact fM_r | with_reducible refine fM_18 ?_ | with_reducible refine fM_lb ?_ | with_reducible refine fM_ly ?_ | with_reducible refine fM_kp ?_ | with_reducible refine fM_1 ?_ | with_reducible refine fM_2 ?_ | with_reducible refine fM_k (by decide) ?_ | with_reducible refine fM_cb ?_ | with_reducible refine fM_pa ?_ | with_reducible refine fM_et ?_ | with_reducible refine fM_nn ?_ | with_reducible refine fM_sp ?_ | with_reducible refine fM_wd ?_ | with_reducible refine fM_fd ?_ | with_reducible refine fM_pb ?_ | with_reducible refine fM_pt ?_ | with_reducible refine fM_aw ?_ | with_reducible refine fM_cw ?_))
theorem fM_saveSnapshot {a : Int32} : fM m J (M_saveSnapshot m a J) := by
  simp only [M_saveSnapshot, lt_eq]
  split
  · exact fM_2 (fM_cb (fM_18 fM_r))
  · exact fM_18 (fM_18 fM_r)
theorem fM_abL {r e x : Int32} : ∀ (n : Nat) (X : ow_I) (b i : Nat), fM m J X → fM m J (M_addBarrel_L95 m r e x n X b i).2 := by
  intro n
  induction n with
  | zero => intro X b i h; exact h
  | succ n ih =>
    intro X b i h
    unfold M_addBarrel_L95
    split
    · exact h
    · exact ih _ _ _ (fM_ae h)
theorem fM_addBarrel {a b c : Int32} : fM m J (M_addBarrel m a b c J).2 := by
  simp only [M_addBarrel, lt_eq]
  (repeat' split) <;> (try dsimp only) <;> (first | exact fM_abL _ _ _ _ (fM_nb (fM_kp (fM_18 fM_r))) | exact fM_18 (fM_18 fM_r))
theorem fM_bsL {n2 : Int32} : ∀ (n : Nat) (X : ow_I) (b t : Int32) (s : Nat), fM m J X → fM m J (M_bestStep_L38 m n2 n X b t s).2 := by
  intro n
  induction n with
  | zero => intro X b t s h; exact h
  | succ n ih =>
    intro X b t s h
    simp only [M_bestStep_L38, lt_eq]
    split
    · exact h
    · split <;> exact ih _ _ _ _ (fM_cw h)
theorem fM_bestStep {a : Int32} : fM m J (M_bestStep m a J).2 := by
  simp only [M_bestStep, lt_eq]
  split
  · exact fM_bsL _ _ _ _ _ (fM_18 fM_r)
  · exact fM_18 (fM_18 fM_r)
theorem fM_msL {b : Int32} : ∀ (n : Nat) (X : ow_I) (i : Nat), fM m J X → fM m J (M_minutesToSale_L19 m b n X i).2 := by
  intro n
  induction n with
  | zero => intro X i h; exact h
  | succ n ih =>
    intro X i h
    simp only [M_minutesToSale_L19, lt_eq]
    split
    · dsimp only
      exact fM_et h
    · split
      · dsimp only
        exact fM_et h
      · exact ih _ _ (fM_p1 h)
theorem fM_minutesToSale {a : Int32} : fM m J (M_minutesToSale m a J).2 := by
  simp only [M_minutesToSale, lt_eq]
  split
  · exact fM_lb fM_r
  · exact fM_msL _ _ _ (fM_cb (fM_lb fM_r))
theorem fM_ti {b : Bool} {w : Int32} (h : fM m J X) : fM m J (M_throwsIf m b w X).2 := fM_of h (fun b hb => rr_thr (by omega)) (fr_thr (by decide))
theorem fM_keenestBuyer {a : Int32} : fM m J (M_keenestBuyer m a J).2 := by
  simp only [M_keenestBuyer, lt_eq]
  split
  · exact fM_lb fM_r
  · rw [kb_2]
    exact fM_lb fM_r
theorem fM_loadSetup : fM m J (M_loadSetup m J).2 := by
  have e : fM m J (M_failsAtSetup m (M_copyBlock m 0 11 (ow_u J m 18 (nI 0)))).2 := fM_of (fM_cb (fM_18 fM_r)) (fun b hb => rr_set (by omega) (by omega) (by omega)) (fr_set (by omega))
  unfold M_loadSetup
  rw [lt_eq, lt_eq]
  generalize M_failsAtSetup m (M_copyBlock m 0 11 (ow_u J m 18 (nI 0))) = R at e ⊢
  obtain ⟨r, Y⟩ := R
  have e : fM m J (ow_u Y m 5 (nI 0)) := fM_k (by decide) e
  rw [lt_p r Y]
  dsimp only
  rw [lt_eq]
  generalize ow_u Y m 5 (nI 0) = W at e ⊢
  have two : ∀ Z, fM m J Z → fM m J (lt (M_throwsIf m r (nI 1) Z) (fun (r5 : Bool × ow_I) => if r5.1 then (nI 0, r5.2) else lt (M_keep m 11 r5.2) (fun (I6 : ow_I) => (I6 (m + 1) 7, I6)))).2 := fun Z h => by
    rw [lt_eq]
    have k := fM_ti (b := r) (w := nI 1) h
    generalize M_throwsIf m r (nI 1) Z = R5 at k ⊢
    split
    · exact k
    · exact fM_kp k
  split
  · rw [lt_eq]
    exact two _ (fM_cb e)
  · exact two _ e
end FRM
