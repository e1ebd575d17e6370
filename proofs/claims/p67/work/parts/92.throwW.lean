/-! the text by a wide index -/
section OX
variable {X : ow_X} {cs sl : Nat} {h : ow_H} {pc : Nat} {lv : List (Nat × Value)} {st : List Value} {own : String} {cc : ByteArray} {nL kR mR sR : Nat} {Z : Nat → Nat} {R0 : Room}
variable {h0 : ow_H} {K : Nat → Option Value → ow_H → Prop} {mcR msR : Nat} {retR : Option FieldType} {nmR : String}
theorem or_throwSW {S : Nat → Option ow_Sh} {I : ow_I} {V : Nat → Nat → Value} {z : Nat} {c ik is ic sa : Nat} {text : String} {names : List String} (E : ow_E X own cc nL (ow_rm kR mcR msR)) (G : og_G X Z) (F : ox_F X h0 K mcR msR retR nmR) (w : ox_tw own ik ic c names) (hc : 0 < c) (hstr : og_u X (vk_R own is text sa))
    (d0 : decode cc pc = .ok (.new ik, 3)) (d3 : decode cc (pc + 3) = .ok (.dup, 1)) (d4 : decode cc (pc + 4) = .ok (.ldc_w is, 3)) (d7 : decode cc (pc + 7) = .ok (.invokespecial ic, 3)) (d10 : decode cc (pc + 10) = .ok (.athrow, 1)) (hk : 8 ≤ kR) (hst : (st.map fun v => v.category).sum ≤ 8) (hcs : cs + 1 ≤ mcR) (hsl : sl + 6 ≤ msR)
    (kk : ∀ z', z ≤ z' → K c none (S, I, V, z')) : ow_W X cs sl (S, I, V, z) pc lv st := by
  obtain ⟨p, l, e, R, s, m, args, below, meth, cd, Q, D, A⟩ := X
  obtain ⟨hx, hb, hown, hts, hK, hA, hml, rfl⟩ := E
  obtain ⟨rfl, rfl, hr, hlocks, hnm, hex⟩ := F
  obtain ⟨w1, w2, w3, w4, w5, w6, w7, w8, w9⟩ := w
  intro H locs ls hR hD hSS hl
  have hg := G.1
  refine vx_throwSW (cls := ow_ex c) (names := names) (is := is) (ic := ic) (ik := ik) (text := text) (sa := sa) hx hb G.2 hown w6 w7 (hts _ w1) (hts _ w2) hstr ?_ w5 hg.2.2.2.2.2.1 hg.2.2.2.2.2.2.1 hSS hl.1 d0 d3 d4 d7 d10 (fun x hx => (hex x hx).elim) ?_ ?_ hcs hsl hlocks ?_ hSS.2.2 hcs hsl
  · exact vx_hat (fun w hw => hts w (w3 w hw)) w4 (vx_c (va_Nw.use rfl (hg.2.2.2.2.2.2.2.2.2.2.2.2.1 _ w8)) (fun w hw => by
      obtain ⟨q, hq, rfl⟩ := List.mem_map.mp hw
      exact va_Nw.use rfl (hg.2.2.2.2.2.2.2.2.2.2.2.2.2.2.2.2 _ hq)))
  · show names.length + 3 < kR
    omega
  · show (st.map fun v => v.category).sum + (13 * (names.length + 1) + 43) ≤ 40 * kR
    omega
  · intro t hvm hz hq
    refine ⟨⟨c, (S, I, V, t.heap.size), rfl, hc, kk _ (by have := hR.2; simp only at this; omega), hR.grow hvm hq, hD⟩, Nat.le_trans hSS.1 hz, fun q h1 h2 => ?_⟩
    rw [hq q (Nat.lt_of_lt_of_le h1 hSS.1)]
    exact hSS.2.1 q h1 h2
end OX
theorem tn_lt (x : Int32) : tn x < 2 ^ 31 := by
  have h := Int32.toInt_lt x
  show x.toInt.toNat < 2 ^ 31
  omega
