/-! the law's loop: its locals, its arguments -/
def lwL (j : Nat) : List (Nat × Value) := [(3, .int (nI j)), (2, .ref 81), (1, .ref 0), (0, .ref 999)]
theorem JJ7 {sh : Sh} {I : IM} {L : LM} {R : RM} (h : JJ sh I L R) : sh[0]? = some (.inl 7) := by
  obtain ⟨_, _, _, _, _, hR, _⟩ := h
  exact hR.1.1.1
theorem JJ8 {sh : Sh} {I : IM} {L : LM} {R : RM} (h : JJ sh I L R) : sh[81]? = some (.inl 8) := by
  obtain ⟨_, _, _, _, _, hR, _⟩ := h
  exact hR.2.2.1
section LAWA
variable {X : PX} {own : String} {cc : ByteArray} {d kc ks pc p1 p2 p3 p4 q : Nat} {st : List Value} {sh : Sh} {I : IM} {L : LM} {R : RM} {k n b LL j : Nat} {scr : Nat → Int32}
theorem law_arg {z : Int} (o : Nat) (h : PXok X own cc d kc ks) (hs : PXs X b LL scr) (hL : LL ≤ 3072) (d0 : Dc cc pc (.aload_n 0) 1 p1) (d1 : Dc cc p1 (.iload_n 3) 1 p2) (d2 : Dc cc p2 (.iconst z) 1 p3) (hz : Int32.ofInt z = nI o) (d3 : Dc cc p3 .iadd 1 p4) (d4 : Dc cc p4 .iaload 1 q) (hj : j + o < LL)
    (kk : PW X q (lwL j) (.int (scr (j + o)) :: st) sh I L R k n) : PW X pc (lwL j) st sh I L R k n := by
  refine pw_aload_n h 3 d0 rfl ?_
  refine pw_iload_n h 0 d1 rfl ?_
  refine pw_iconst h d2 hz ?_
  refine pw_iadd h d3 ?_
  rw [nI_add]
  exact pw_sld h hs d4 (px_ix_nI hj (by omega)) kk
end LAWA
