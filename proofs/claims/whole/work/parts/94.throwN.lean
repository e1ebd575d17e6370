section OX
variable {X : ow_X} {cs sl : Nat} {h : ow_H} {pc : Nat} {lv : List (Nat × Value)} {st : List Value} {own : String} {cc : ByteArray} {nL kR mR sR : Nat} {Z : Nat → Nat} {R0 : Room}
variable {h0 : ow_H} {K : Nat → Option Value → ow_H → Prop} {mcR msR : Nat} {retR : Option FieldType} {nmR : String}
theorem or_throwN {S : Nat → Option ow_Sh} {I : ow_I} {V : Nat → Nat → Value} {z : Nat} {is sa : Nat} {text : String} (E : ow_E X RX10 cc nL (ow_rm kR mcR msR)) (G : og_G X Z) (F : ox_F X h0 K mcR msR retR nmR) (hstr : og_u X (vk_R RX10 is text sa))
    (d0 : decode cc pc = .ok (.new 215, 3)) (d3 : decode cc (pc + 3) = .ok (.dup, 1)) (d4 : decode cc (pc + 4) = .ok (.ldc is, 2)) (d6 : decode cc (pc + 6) = .ok (.invokespecial 219, 3)) (d9 : decode cc (pc + 9) = .ok (.athrow, 1)) (hk : 8 ≤ kR) (hst : (st.map fun v => v.category).sum ≤ 8) (hcs : cs + 1 ≤ mcR) (hsl : sl + 6 ≤ msR)
    (kk : ∀ z', z ≤ z' → K 4 none (S, I, V, z')) : ow_W X cs sl (S, I, V, z) pc lv st := by
  sorry
end OX
