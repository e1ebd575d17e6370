/-! COMMANDS READ -/
section CMD
variable {p m c : Nat} {I J I' J' : ow_I}
theorem vh_L : ∀ (k i : Nat), i ≤ 6 → 6 - i < k → ∃ r, i ≤ r ∧ r ≤ 6 ∧ Q_verbHere_L2 p k I i = r ∧ (r < 6 → U_isWord (p + 1) (3 + r) I = true) ∧ ∀ j, i ≤ j → j < r → ¬ U_isWord (p + 1) (3 + j) I = true := by
  intro k
  induction k with
  | zero => intro i h1 h2; omega
  | succ k ih =>
    intro i h1 h2
    unfold Q_verbHere_L2
    by_cases d : 6 ≤ i
    · rw [if_pos d]
      exact ⟨6, h1, Nat.le_refl _, rfl, fun z => by omega, fun j z1 z2 => by omega⟩
    · rw [if_neg d]
      by_cases e : U_isWord (p + 1) (3 + i) I = true
      · rw [if_pos e]
        exact ⟨i, Nat.le_refl _, by omega, rfl, fun _ => e, fun j z1 z2 => by omega⟩
      · rw [if_neg e]
        obtain ⟨r, g1, g2, g3, g4, g5⟩ := ih (i + 1) (by omega) (by omega)
        refine ⟨r, by omega, g2, g3, g4, fun j z1 z2 => ?_⟩
        by_cases f : j = i
        · rw [f]; exact e
        · exact g5 j (by omega) z2
/-- the verb and the word's number -/
def vw (v : Nat) : Nat := if v = 5 then 2 else v + 3
theorem vh_eq {q : Nat} (w2 : ∀ w, w < 8 → (U_isWord (p + 1) w I = true ↔ w = q)) (w3 : U_isWord (p + 1) 8 I = true ↔ q = 2) : (Q_verbHere p I < 6 ∧ q = vw (Q_verbHere p I)) ∨ (¬ Q_verbHere p I < 6 ∧ ¬ (2 ≤ q ∧ q ≤ 7)) := by
  obtain ⟨r, -, g2, g3, g4, g5⟩ := @vh_L p I 7 0 (by decide) (by decide)
  have e : Q_verbHere p I = r := g3
  rw [e]
  by_cases d : r < 6
  · left
    refine ⟨d, ?_⟩
    have := g4 d
    unfold vw
    by_cases f : r = 5
    · rw [if_pos f]
      rw [f] at this
      exact w3.mp this
    · rw [if_neg f]
      have := (w2 (3 + r) (by omega)).mp this
      omega
  · right
    refine ⟨d, fun z => ?_⟩
    by_cases f : q = 2
    · exact g5 5 (Nat.zero_le _) (by omega) (w3.mpr f)
    · exact g5 (q - 3) (Nat.zero_le _) (by omega) ((w2 (3 + (q - 3)) (by omega)).mpr (by omega))
theorem tf_st {lo hi : Nat} (hc : c ≠ p ∧ c ≠ p + 1 ∧ c ≠ p + 2) (h : tk (p + 1) m I (M_readToken m J)) (hl : lo ≤ 1000000) (hh : hi < 1000000) :
    (∃ w R S, Q_takeFirst p c (nI lo) (nI hi) I = (true, ow_u R c 1 (nI w)) ∧ M_failsAtNumber m 0 (nI lo) (nI hi) J = (false, S) ∧ lo ≤ w ∧ w ≤ hi ∧ nst p m 0 w I J R S) ∨ (∃ R S, Q_takeFirst p c (nI lo) (nI hi) I = (false, R) ∧ M_failsAtNumber m 0 (nI lo) (nI hi) J = (true, S) ∧ pe p m R S) := by
  unfold Q_takeFirst
  rcases num_st (q := 0) h hl hh with ⟨w, R, S, a1, a2, a3, a4, a5⟩ | ⟨R, S, a1, a2, a3⟩
  · rw [a1]
    simp only [lt_eq]
    rw [a5.2.1]
    exact Or.inl ⟨w, R, S, rfl, a2, a3, a4, a5⟩
  · rw [a1]
    simp only [lt_eq]
    exact Or.inr ⟨_, S, rfl, a2, pe_row a3 (rr_u (by omega)) rfl⟩
theorem tc_st {lo hi : Nat} (hc : c ≠ p ∧ c ≠ p + 1 ∧ c ≠ p + 2) (h : tk (p + 1) m I (M_readToken m J)) (hl : lo ≤ 1000000) (hh : hi < 1000000) :
    (∃ w R S, Q_takeSecond p c (nI lo) (nI hi) I = (true, ow_u R c 2 (nI w)) ∧ M_failsAtNumber m 1 (nI lo) (nI hi) J = (false, S) ∧ lo ≤ w ∧ w ≤ hi ∧ nst p m 1 w I J R S) ∨ (∃ R S, Q_takeSecond p c (nI lo) (nI hi) I = (false, R) ∧ M_failsAtNumber m 1 (nI lo) (nI hi) J = (true, S) ∧ pe p m R S) := by
  unfold Q_takeSecond
  rcases num_st (q := 1) h hl hh with ⟨w, R, S, a1, a2, a3, a4, a5⟩ | ⟨R, S, a1, a2, a3⟩
  · rw [a1]
    simp only [lt_eq]
    rw [a5.2.1]
    exact Or.inl ⟨w, R, S, rfl, a2, a3, a4, a5⟩
  · rw [a1]
    simp only [lt_eq]
    exact Or.inr ⟨_, S, rfl, a2, pe_row a3 (rr_u (by omega)) rfl⟩
/-- the numbers of a command: the class's row f, the reference's g -/
def nums (v nb : Nat) (f g : Nat → Int32) : Prop := (∃ k : Nat, f 1 = nI k ∧ g 0 = nI k ∧ (v = 0 → k < nb) ∧ (v = 1 → 1 ≤ k ∧ k ≤ 200) ∧ (v = 2 → k ≤ 19) ∧ (v = 3 → k < nb) ∧ (v = 4 → k ≤ 19)) ∧ (v = 2 ∨ v = 3 → ∃ e : Nat, f 2 = nI e ∧ g 1 = nI e ∧ 1 ≤ e ∧ (v = 2 → e ≤ 8) ∧ (v = 3 → e ≤ 9999))
theorem rest_eq {v nb : Nat} (hc : c ≠ p ∧ c ≠ p + 1 ∧ c ≠ p + 2) (h : tk (p + 1) m I (M_readToken m J)) (hv : v < 5) (hn : 1 ≤ nb ∧ nb ≤ 6) (h6 : J (m + 1) 6 = nI nb) :
    pr p m (fun A C => tk (p + 1) m A (M_readToken m C) ∧ nums v nb (A c) (C (m + 4))) (Q_readNumbers p c (nI nb) v I) (M_failsAtRest m (nI (vw v)) J) := by
  have eb : nI nb - nI 1 = nI (nb - 1) := nI_sb hn.1
  have one : ∀ {lo hi : Nat}, lo ≤ 1000000 → hi < 1000000 → (∀ k, lo ≤ k → k ≤ hi → (v = 0 → k < nb) ∧ (v = 1 → 1 ≤ k ∧ k ≤ 200) ∧ (v = 2 → k ≤ 19) ∧ (v = 3 → k < nb) ∧ (v = 4 → k ≤ 19)) → ¬ (v = 2 ∨ v = 3) →
      pr p m (fun A C => tk (p + 1) m A (M_readToken m C) ∧ nums v nb (A c) (C (m + 4))) (Q_takeFirst p c (nI lo) (nI hi) I) (M_failsAtNumber m 0 (nI lo) (nI hi) J) := by
    intro lo hi hl hh hk h23
    rcases tf_st hc h hl hh with ⟨w, R, S, a1, a2, a3, a4, a5⟩ | ⟨R, S, a1, a2, a3⟩
    · rw [a1, a2]
      exact pr_t ⟨tk_row a5.1 (rr_u (by omega)) (rr_u (by omega)) rfl rfl, ⟨w, ow_u_s _ _ _ _, a5.2.2.1, hk w a3 a4⟩, fun z => absurd z h23⟩
    · rw [a1, a2]
      exact pr_f a3
  have two : ∀ {lo hi lo2 hi2 : Nat}, lo ≤ 1000000 → hi < 1000000 → lo2 ≤ 1000000 → hi2 < 1000000 → (∀ k, lo ≤ k → k ≤ hi → (v = 0 → k < nb) ∧ (v = 1 → 1 ≤ k ∧ k ≤ 200) ∧ (v = 2 → k ≤ 19) ∧ (v = 3 → k < nb) ∧ (v = 4 → k ≤ 19)) → (∀ e, lo2 ≤ e → e ≤ hi2 → 1 ≤ e ∧ (v = 2 → e ≤ 8) ∧ (v = 3 → e ≤ 9999)) →
      pr p m (fun A C => tk (p + 1) m A (M_readToken m C) ∧ nums v nb (A c) (C (m + 4))) (lt (Q_takeFirst p c (nI lo) (nI hi) I) (fun (r3 : Bool × ow_I) => if r3.1 then lt (Q_takeSecond p c (nI lo2) (nI hi2) r3.2) (fun (r4 : Bool × ow_I) => if r4.1 then (true, r4.2) else (false, r4.2)) else (false, r3.2))) (lt (M_failsAtNumber m 0 (nI lo) (nI hi) J) (fun (r3 : Bool × ow_I) => if r3.1 then (true, r3.2) else lt (M_failsAtNumber m 1 (nI lo2) (nI hi2) r3.2) (fun (r4 : Bool × ow_I) => if r4.1 then (true, r4.2) else (false, r4.2)))) := by
    intro lo hi lo2 hi2 hl hh hl2 hh2 hk hk2
    rcases tf_st hc h hl hh with ⟨w, R, S, a1, a2, a3, a4, a5⟩ | ⟨R, S, a1, a2, a3⟩
    · rw [a1, a2, lt_p true, lt_p false]
      dsimp only
      rw [if_pos (show true = true from rfl), if_neg (show ¬ false = true by decide)]
      rcases tc_st (c := c) (I := ow_u R c 1 (nI w)) hc (tk_row a5.1 (rr_u (by omega)) (rr_u (by omega)) rfl rfl) hl2 hh2 with ⟨e, R2, S2, b1, b2, b3, b4, b5⟩ | ⟨R2, S2, a1, a2, a3⟩
      · rw [b1, b2, lt_p true, lt_p false]
        dsimp only
        rw [if_pos (show true = true from rfl), if_neg (show ¬ false = true by decide)]
        refine pr_t ⟨tk_row b5.1 (rr_u (by omega)) (rr_u (by omega)) rfl rfl, ⟨w, ?_, ?_, hk w a3 a4⟩, fun _ => ⟨e, ow_u_s _ _ _ _, b5.2.2.1, hk2 e b3 b4⟩⟩
        · rw [u_one, if_neg (by decide), b5.2.2.2.1 _ (by omega) (by omega), ow_u_s]
        · rw [b5.2.2.2.2.2.2.1 0 (by decide), a5.2.2.1]
      · rw [a1, a2, lt_p false, lt_p true]
        dsimp only
        rw [if_neg (show ¬ false = true by decide), if_pos (show true = true from rfl)]
        exact pr_f a3
    · rw [a1, a2, lt_p false, lt_p true]
      dsimp only
      rw [if_neg (show ¬ false = true by decide), if_pos (show true = true from rfl)]
      exact pr_f a3
  have hv5 : v = 0 ∨ v = 1 ∨ v = 2 ∨ v = 3 ∨ v = 4 := by omega
  unfold Q_readNumbers M_failsAtRest M_failsAtBuyerNumber M_failsAtBarrelNumber
  rw [h6, eb]
  rcases hv5 with hz | hz | hz | hz | hz <;> subst hz
  · rw [if_pos (show nI (gl_sm 0) = nI (1 + 0) from rfl), if_pos (show nI (vw 0) = nI (3 + 0) from rfl)]
    exact one (lo := 0) (hi := nb - 1) (by omega) (by omega) (fun k h1 h2 => by omega) (by decide)
  · rw [if_neg (show ¬ nI (gl_sm 1) = nI (1 + 0) by decide), if_pos (show nI (gl_sm 1) = nI (1 + 1) from rfl), if_neg (show ¬ nI (vw 1) = nI (3 + 0) by decide), if_pos (show nI (vw 1) = nI (3 + 1) from rfl)]
    exact one (lo := 1) (hi := 200) (by omega) (by omega) (fun k h1 h2 => by omega) (by decide)
  · rw [if_neg (show ¬ nI (gl_sm 2) = nI (1 + 0) by decide), if_neg (show ¬ nI (gl_sm 2) = nI (1 + 1) by decide), if_pos (show nI (gl_sm 2) = nI (1 + 2) from rfl), if_neg (show ¬ nI (vw 2) = nI (3 + 0) by decide), if_neg (show ¬ nI (vw 2) = nI (3 + 1) by decide), if_pos (show nI (vw 2) = nI (3 + 2) from rfl)]
    exact two (lo := 0) (hi := 19) (lo2 := 1) (hi2 := 8) (by omega) (by omega) (by omega) (by omega) (fun k h1 h2 => by omega) (fun k h1 h2 => by omega)
  · rw [if_neg (show ¬ nI (gl_sm 3) = nI (1 + 0) by decide), if_neg (show ¬ nI (gl_sm 3) = nI (1 + 1) by decide), if_neg (show ¬ nI (gl_sm 3) = nI (1 + 2) by decide), if_pos (show nI (gl_sm 3) = nI (1 + 3) from rfl), if_neg (show ¬ nI (vw 3) = nI (3 + 0) by decide), if_neg (show ¬ nI (vw 3) = nI (3 + 1) by decide), if_neg (show ¬ nI (vw 3) = nI (3 + 2) by decide), if_pos (show nI (vw 3) = nI (3 + 3) from rfl)]
    exact two (lo := 0) (hi := nb - 1) (lo2 := 1) (hi2 := 9999) (by omega) (by omega) (by omega) (by omega) (fun k h1 h2 => by omega) (fun k h1 h2 => by omega)
  · rw [if_neg (show ¬ nI (gl_sm 4) = nI (1 + 0) by decide), if_neg (show ¬ nI (gl_sm 4) = nI (1 + 1) by decide), if_neg (show ¬ nI (gl_sm 4) = nI (1 + 2) by decide), if_neg (show ¬ nI (gl_sm 4) = nI (1 + 3) by decide), if_pos (show nI (gl_sm 4) = nI (1 + 4) from rfl), if_neg (show ¬ nI (vw 4) = nI (3 + 0) by decide), if_neg (show ¬ nI (vw 4) = nI (3 + 1) by decide), if_neg (show ¬ nI (vw 4) = nI (3 + 2) by decide), if_neg (show ¬ nI (vw 4) = nI (3 + 3) by decide)]
    exact one (lo := 0) (hi := 19) (by omega) (by omega) (fun k h1 h2 => by omega) (by decide)
end CMD
