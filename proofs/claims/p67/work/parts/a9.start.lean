/-! THE START: the words of ow_T out of the tables -/
theorem ow_T_all {s : State} {args : Array Value} (h : ∀ w ∈ tables_1, w.before args s = true) : ∀ w ∈ ow_T, w.before args s = true := by
  have h2 : ∀ w ∈ lw_tbl, w.before args s = true := k2_hts_sels lw_privs h lw_privs_ok
  have hT : ∀ (i : Nat) (w : Cond), tables_1[i]? = some w → w.before args s = true := fun i w e => h w (List.mem_of_getElem? e)
  intro w hw
  rcases List.mem_append.mp hw with hw | hw
  · unfold ow_T2 at hw
    rcases List.mem_cons.mp hw with rfl | hw
    · exact ow_sel_priv (x0 := ⟨"java/lang/AbstractStringBuilder", "isLatin1", "()Z"⟩) (y0 := ⟨"java/lang/AbstractStringBuilder", "isLatin1", "()Z"⟩) (hT 625 _ (by decide +kernel)) rfl ⟨by decide, by decide⟩ (hT 596 _ (by decide +kernel)) (hT 597 _ (by decide +kernel))
    · rcases List.mem_cons.mp hw with rfl | hw
      · exact ow_sel_priv (x0 := ⟨"java/lang/AbstractStringBuilder", "isLatin1", "()Z"⟩) (y0 := ⟨"java/lang/AbstractStringBuilder", "isLatin1", "()Z"⟩) (hT 625 _ (by decide +kernel)) rfl ⟨by decide, by decide⟩ (hT 592 _ (by decide +kernel)) (hT 593 _ (by decide +kernel))
      · rcases List.mem_cons.mp hw with rfl | hw
        · exact ow_sel_priv (x0 := ⟨"java/lang/AbstractStringBuilder", "isLatin1", "()Z"⟩) (y0 := ⟨"java/lang/AbstractStringBuilder", "isLatin1", "()Z"⟩) (hT 625 _ (by decide +kernel)) rfl ⟨by decide, by decide⟩ (hT 644 _ (by decide +kernel)) (hT 645 _ (by decide +kernel))
        · rcases List.mem_cons.mp hw with rfl | hw
          · exact ow_sel_priv (x0 := ⟨"java/lang/AbstractStringBuilder", "isLatin1", "()Z"⟩) (y0 := ⟨"java/lang/AbstractStringBuilder", "isLatin1", "()Z"⟩) (hT 625 _ (by decide +kernel)) rfl ⟨by decide, by decide⟩ (hT 648 _ (by decide +kernel)) (hT 649 _ (by decide +kernel))
          · cases hw
  · exact h2 w (List.mem_filter.mp hw).1
