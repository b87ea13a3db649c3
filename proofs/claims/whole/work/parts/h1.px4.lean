/-! new int[4][13]; the script's ints -/
def nI5 (I : IM) (c : Nat) : IM := nI0 (nI0 (nI0 (nI0 (nI0 I c) (c + 1)) (c + 2)) (c + 3)) (c + 4)
def nL5 (L : LM) (c : Nat) : LM := nL0 (nL0 (nL0 (nL0 (nL0 L c) (c + 1)) (c + 2)) (c + 3)) (c + 4)
def nR5 (R : RM) (c : Nat) : RM := u1 (nR0 (nR0 (nR0 (nR0 (nR0 R c) (c + 1)) (c + 2)) (c + 3)) (c + 4)) c (fun j => if j < 4 then some (c + 1 + j) else none)
def nK5 : Sh := [.inr (.array .int, 4), .inr (.int, 13), .inr (.int, 13), .inr (.int, 13), .inr (.int, 13)]
def nA5 (ad : Nat → Nat) (c q : Nat) (r : Nat → Nat) : Nat → Nat := fun i => if i = c then q else if c < i ∧ i ≤ c + 4 then r (i - (c + 1)) else ad i
section PXM
variable {X : PX} {own : String} {cc : ByteArray} {d kc ks pc q : Nat} {lv : List (Nat × Value)} {st : List Value} {sh : Sh} {I : IM} {L : LM} {R : RM} {k n : Nat}
theorem nI5_o {c i : Nat} (h : i < c) : nI5 I c i = I i := by
  unfold nI5
  rw [nI0_o (by omega), nI0_o (by omega), nI0_o (by omega), nI0_o (by omega), nI0_o (by omega)]
theorem nL5_o {c i : Nat} (h : i < c) : nL5 L c i = L i := by
  unfold nL5
  rw [nL0_o (by omega), nL0_o (by omega), nL0_o (by omega), nL0_o (by omega), nL0_o (by omega)]
theorem nR5_o {c i : Nat} (h : i < c) : nR5 R c i = R i := by
  unfold nR5
  have e : ∀ (f : RM) g, u1 f c g i = f i := fun f g => funext fun _ => if_neg (by omega)
  rw [e, nR0_o (by omega), nR0_o (by omega), nR0_o (by omega), nR0_o (by omega), nR0_o (by omega)]
theorem nR5_c {c : Nat} : nR5 R c c = fun j => if j < 4 then some (c + 1 + j) else none := funext fun _ => if_pos rfl
theorem nR5_r {c i : Nat} (h : c < i) (h2 : i ≤ c + 4) : nR5 R c i = fun _ => none := by
  unfold nR5
  have e : ∀ (f : RM) g, u1 f c g i = f i := fun f g => funext fun _ => if_neg (by omega)
  rw [e]
  have : i = c + 4 ∨ i = c + 3 ∨ i = c + 2 ∨ i = c + 1 := by omega
  rcases this with e1 | e1 | e1 | e1 <;> subst e1
  · exact nR0_s
  · rw [nR0_o (by omega)]; exact nR0_s
  · rw [nR0_o (by omega), nR0_o (by omega)]; exact nR0_s
  · rw [nR0_o (by omega), nR0_o (by omega), nR0_o (by omega)]; exact nR0_s
theorem nI5_r {c i : Nat} (h : c ≤ i) (h2 : i ≤ c + 4) : nI5 I c i = fun _ => 0 := by
  unfold nI5
  have : i = c + 4 ∨ i = c + 3 ∨ i = c + 2 ∨ i = c + 1 ∨ i = c := by omega
  rcases this with e1 | e1 | e1 | e1 | e1 <;> subst e1
  · exact nI0_s
  · rw [nI0_o (by omega)]; exact nI0_s
  · rw [nI0_o (by omega), nI0_o (by omega)]; exact nI0_s
  · rw [nI0_o (by omega), nI0_o (by omega), nI0_o (by omega)]; exact nI0_s
  · rw [nI0_o (by omega), nI0_o (by omega), nI0_o (by omega), nI0_o (by omega)]; exact nI0_s
theorem nA5_o {ad : Nat → Nat} {z : Nat} {r : Nat → Nat} (h9 : sh.length + 5 ≤ 999) : ∀ i, (i < sh.length ∨ 999 ≤ i) → nA5 ad sh.length z r i = ad i := fun i hi => by
  unfold nA5
  rw [if_neg (by omega), if_neg (by omega)]
theorem px_Rb_5 (h : px_Rb sh R) : px_Rb (sh ++ nK5) (nR5 R sh.length) := fun i k j hi e => by
  rw [List.length_append] at hi ⊢
  have h5 : nK5.length = 5 := rfl
  rw [h5] at hi ⊢
  rcases Nat.lt_or_ge i sh.length with c | c
  · rw [nR5_o c] at e
    have := h i k j c e
    omega
  · by_cases c2 : i = sh.length
    · rw [c2, nR5_c] at e
      by_cases c3 : k < 4
      · have e : some (sh.length + 1 + k) = some j := by
          have e' : (if k < 4 then some (sh.length + 1 + k) else none) = some j := e
          rwa [if_pos c3] at e'
        have := Option.some.inj e
        omega
      · have e' : (if k < 4 then some (sh.length + 1 + k) else none) = some j := e
        rw [if_neg c3] at e'
        cases e'
    · rw [nR5_r (by omega) (by omega)] at e
      cases e
theorem px_old_5 {ad : Nat → Nat} {z : Nat} {r : Nat → Nat} (h9 : sh.length + 5 ≤ 999) : px_old sh ad (nA5 ad sh.length z r) I (nI5 I sh.length) L (nL5 L sh.length) R (nR5 R sh.length) := fun i hi => ⟨nA5_o h9 i (Or.inl hi), nI5_o hi, nL5_o hi, nR5_o hi⟩
theorem nA5_c {ad : Nat → Nat} {c z : Nat} {r : Nat → Nat} : nA5 ad c z r c = z := if_pos rfl
theorem nA5_r {ad : Nat → Nat} {c z i : Nat} {r : Nat → Nat} (h : i < 4) : nA5 ad c z r (c + 1 + i) = r i := by
  unfold nA5
  rw [if_neg (by omega), if_pos (by omega), Nat.add_sub_cancel_left]
theorem pw_mna {index : Nat} (h : PXok X own cc d kc ks) (dc : Dc cc pc (.multianewarray index 2) 4 q) (hcl : Cond.classLink own index "[[I" ∈ TW) {c : Nat} (hc : sh.length = c) (h9 : c + 5 ≤ 999) (hv : ∀ v ∈ st, px_rok c v) (hv2 : ∀ q ∈ lv, px_rok c q.2) (hkc : k + 5 ≤ kc) (hks : n + 56 ≤ ks)
    (kk : PW X q lv (.ref c :: st) (sh ++ nK5) (nI5 I c) (nL5 L c) (nR5 R c) (k + 5) (n + 56)) : PW X pc lv (.int 13 :: .int 4 :: st) sh I L R k n := by
  intro ad H locs ls hp
  subst hc
  have hra := (h.2.2.2.2.1.1.2 0 _ (show (px_tys (xA X))[0]? = some (xA X .int, .int) from rfl)).2
  have hX : px_w (xA X) ad sh I L R ++ va_pl [] (fun _ => .inl (xA X .int, 13, .inl (fun _ => 0))) = px_w (xA X) ad sh I L R := List.append_nil _
  refine va_mna (X := px_w (xA X) ad sh I L R) (L := []) (f := fun _ => .inl (xA X .int, 13, .inl (fun _ => 0))) (ty := .int) (cy := xA X .int) (N' := 4) (K' := 13) (z := (13, .inl (fun _ => 0))) h.1 h.2.1 h.2.2.2.1 (h.2.2.1 _ hcl) h.2.2.2.2.1.2.2.2 (h.2.2.1 _ ac_int) hra h.2.2.2.2.1.1 (by rw [hX]; exact hp.2.1) (by rw [hX]; exact hp.2.2.1) hp.2.2.2.1 (fun q hq => Or.inr hq) (by decide) (by decide) rfl rfl (by decide) (by decide) (by decide) rfl rfl (px_cells h hkc) (px_slots h hks) (fun c => by
    show ({ cls := c, slots := Array.replicate 13 (.int 0), vm := .none } : Cell) = _
    rw [arrV_new]
    rfl) dc.1 (fun z r cA H1 hinj _ hK hP hD hS => ?_)
  have e := px_tyA (t0 := 4) h (fun _ => rfl) hK
  subst e
  have ew := px_w_ext (cA := xA X) (ks := nK5) (px_old_5 (sh := sh) (ad := ad) (z := z) (r := r) (I := I) (L := L) (R := R) h9) hp.1.2.2.2
  have er : ∀ i, i < 4 → vr_up (fun _ => (.inl (xA X .int, 13, .inl (fun _ => 0)) : va_E)) ((List.range 4).map r) (.inl (xA X .int, 13, .inl (fun _ => 0))) (r i) = .inl (xA X .int, 13, .inl (fun _ => 0)) := fun i hi => vr_up_in (List.mem_map.mpr ⟨i, List.mem_range.mpr hi, rfl⟩)
  have e0 : px_ent (xA X) (nA5 ad sh.length z r) (nI5 I sh.length) (nL5 L sh.length) (nR5 R sh.length) sh.length (.inr (.array .int, 4)) = .inl (xA X (.array .int), 4, .inr (.inr (.inr (.inr (fun i => if i < 4 then some (r i) else none))))) := by
    show Sum.inl (xA X (.array .int), 4, Sum.inr (Sum.inr (Sum.inr (Sum.inr (fun j => (nR5 R sh.length sh.length j).map (nA5 ad sh.length z r)))))) = _
    rw [nR5_c]
    have : (fun j => (if j < 4 then some (sh.length + 1 + j) else none).map (nA5 ad sh.length z r)) = (fun i => if i < 4 then some (r i) else none) := by
      funext j
      by_cases c : j < 4
      · rw [if_pos c, if_pos c]
        exact congrArg some (nA5_r c)
      · rw [if_neg c, if_neg c]
        rfl
    rw [this]
  have e1 : ∀ i, i < 4 → px_ent (xA X) (nA5 ad sh.length z r) (nI5 I sh.length) (nL5 L sh.length) (nR5 R sh.length) (sh.length + 1 + i) (.inr (.int, 13)) = .inl (xA X .int, 13, .inl (fun _ => 0)) := fun i hi => by
    show Sum.inl (xA X .int, 13, Sum.inl (nI5 I sh.length (sh.length + 1 + i))) = _
    rw [nI5_r (by omega) (by omega)]
  have ew2 : px_w (xA X) (nA5 ad sh.length z r) (sh ++ nK5) (nI5 I sh.length) (nL5 L sh.length) (nR5 R sh.length) = (px_w (xA X) ad sh I L R ++ [(z, .inl (xA X (.array .int), 4, .inr (.inr (.inr (.inr (fun i => if i < 4 then some (r i) else none))))))]) ++ va_pl ([] ++ (List.range 4).map r) (vr_up (fun _ => .inl (xA X .int, 13, .inl (fun _ => 0))) ((List.range 4).map r) (.inl (xA X .int, 13, .inl (fun _ => 0)))) := by
    rw [ew, List.append_assoc]
    congr 1
    show [(nA5 ad sh.length z r sh.length, px_ent (xA X) (nA5 ad sh.length z r) (nI5 I sh.length) (nL5 L sh.length) (nR5 R sh.length) sh.length (.inr (.array .int, 4))), (nA5 ad sh.length z r (sh.length + 1 + 0), px_ent (xA X) (nA5 ad sh.length z r) (nI5 I sh.length) (nL5 L sh.length) (nR5 R sh.length) (sh.length + 1 + 0) (.inr (.int, 13))), (nA5 ad sh.length z r (sh.length + 1 + 1), px_ent (xA X) (nA5 ad sh.length z r) (nI5 I sh.length) (nL5 L sh.length) (nR5 R sh.length) (sh.length + 1 + 1) (.inr (.int, 13))), (nA5 ad sh.length z r (sh.length + 1 + 2), px_ent (xA X) (nA5 ad sh.length z r) (nI5 I sh.length) (nL5 L sh.length) (nR5 R sh.length) (sh.length + 1 + 2) (.inr (.int, 13))), (nA5 ad sh.length z r (sh.length + 1 + 3), px_ent (xA X) (nA5 ad sh.length z r) (nI5 I sh.length) (nL5 L sh.length) (nR5 R sh.length) (sh.length + 1 + 3) (.inr (.int, 13)))] = [(z, _)] ++ [(r 0, vr_up _ _ _ (r 0)), (r 1, vr_up _ _ _ (r 1)), (r 2, vr_up _ _ _ (r 2)), (r 3, vr_up _ _ _ (r 3))]
    rw [er 0 (by decide), er 1 (by decide), er 2 (by decide), er 3 (by decide), e0, e1 0 (by decide), e1 1 (by decide), e1 2 (by decide), e1 3 (by decide), nA5_c, nA5_r (by decide), nA5_r (by decide), nA5_r (by decide), nA5_r (by decide)]
    rfl
  rw [← ew2] at hP hD
  rw [dc.2]
  have w := kk (nA5 ad sh.length z r) H1 locs ls (hp.ext (by exact Nat.zero_lt_succ 4) (by have : nK5.length = 5 := rfl; omega) (nA5_o h9) (px_Rb_5 hp.1.2.2.2) hv2 hP hD hS)
  rw [List.map_cons, ← px_map_ok (nA5_o h9) hv] at w
  have er2 : px_v (nA5 ad sh.length z r) (.ref sh.length) = .ref z := by
    show Value.ref (nA5 ad sh.length z r sh.length) = _
    rw [nA5_c]
  rw [er2] at w
  exact w
/-- the script: cell 999 -/
def PXs (X : PX) (b LL : Nat) (scr : Nat → Int32) : Prop := va_X b LL scr (xs X) (xs X).heap ∧ b < (xs X).heap.size ∧ xad X 999 = b ∧ xn X = 0
theorem pw_slen {b LL : Nat} {scr : Nat → Int32} (h : PXok X own cc d kc ks) (hs : PXs X b LL scr) (dc : Dc cc pc .arraylength 1 q) (kk : PW X q lv (.int (nI LL) :: st) sh I L R k n) : PW X pc lv (.ref 999 :: st) sh I L R k n := by
  refine PW.step (fun ad H locs ls hp w => ?_) kk
  have e : ad 999 = b := (hp.1.1 999 (Or.inr (Nat.le_refl _))).trans hs.2.2.1
  show xW X H locs k n (F0 (xm X) pc ls (.ref (ad 999) :: st.map (px_v ad)))
  rw [e]
  refine va_slen h.1 h.2.1 hs.1 hs.2.1 (fun q => ?_) hp.2.2.2.1 dc.1 (by rw [dc.2]; exact w)
  rcases q with ⟨i, hi, _⟩ | q
  · rw [hs.2.2.2] at hi
    exact absurd hi (Nat.not_lt_zero _)
  · have := hs.2.1
    omega
theorem pw_sld {b LL j : Nat} {scr : Nat → Int32} {x : Int32} (h : PXok X own cc d kc ks) (hs : PXs X b LL scr) (dc : Dc cc pc .iaload 1 q) (hx : px_ix x LL j) (kk : PW X q lv (.int (scr j) :: st) sh I L R k n) : PW X pc lv (.int x :: .ref 999 :: st) sh I L R k n := by
  refine PW.step (fun ad H locs ls hp w => ?_) kk
  have e : ad 999 = b := (hp.1.1 999 (Or.inr (Nat.le_refl _))).trans hs.2.2.1
  show xW X H locs k n (F0 (xm X) pc ls (.int x :: .ref (ad 999) :: st.map (px_v ad)))
  rw [e]
  refine va_sld h.1 h.2.1 hs.1 hs.2.1 (fun q => ?_) hp.2.2.2.1 hx.1 dc.1 (by rw [dc.2, hx.2]; exact w)
  rcases q with ⟨i, hi, _⟩ | q
  · rw [hs.2.2.2] at hi
    exact absurd hi (Nat.not_lt_zero _)
  · have := hs.2.1
    omega
end PXM
