/-! CALLS: a method's contract over the pure memory, how it is proved, how it is used -/
abbrev PMd : Type := MethodName × ByteArray × Nat × Option FieldType × Nat × Nat × Nat
def px_room (d kc ks : Nat) : Room := { frames := d, cells := kc, slots := ks, locals := 36 * d }
def px_ws (M : PMd) : List Cond := Cond.code M.1 M.2.1 M.2.2.1 M.2.2.2.1 :: TW
abbrev PPost : Type := Option Value → Sh → IM → LM → RM → Prop
def pxQ (D : va_G) (cA : FieldType → ClassId) (ad : Nat → Nat) (n0 sz : Nat) (Post : PPost) : Array Value → State → Outcome → State → Prop := fun _ st o t =>
  (∃ (r : Option Value) (sh' : Sh) (I' : IM) (L' : LM) (R' : RM) (ad' : Nat → Nat), o = .returned (r.map (px_v ad')) ∧ Post r sh' I' L' R' ∧ ((∀ i, (i < n0 ∨ 999 ≤ i) → ad' i = ad i) ∧ n0 ≤ sh'.length ∧ (sh'.length = n0 → ad' = ad) ∧ px_Rb sh' R') ∧ va_P D vwCl (px_w cA ad' sh' I' L' R') t.heap ∧ va_D (px_A ad n0 sz) (px_w cA ad' sh' I' L' R')) ∧ va_F (px_A ad n0 sz) st t
def pxP (D : va_G) (cA : FieldType → ClassId) (ad : Nat → Nat) (sz : Nat) (sh : Sh) (I : IM) (L : LM) (R : RM) : State → Prop := fun U => U.heap.size = sz ∧ va_P D vwCl (px_w cA ad sh I L R) U.heap ∧ pxK D cA U ∧ va_D (fun _ => True) (px_w cA ad sh I L R) ∧ px_Rb sh R
/-- the contract: from these arguments and this memory it returns, and Post holds of answer and memory -/
def PMet (M : PMd) (args : List Value) (sh : Sh) (I : IM) (L : LM) (R : RM) (Post : PPost) : Prop :=
  ∀ (l : Launch) (D : va_G) (cA : FieldType → ClassId) (ad : Nat → Nat) (sz : Nat), Met l M.1 (px_ws M) (px_room M.2.2.2.2.1 M.2.2.2.2.2.1 M.2.2.2.2.2.2) (va_Pc (args.map (px_v ad)) (pxP D cA ad sz sh I L R)) (pxQ D cA ad sh.length sz Post) M.2.2.2.2.2.1 M.2.2.2.2.2.2 (px_A ad sh.length sz)
/-- what a method's end is, in its walk -/
def PXr (X : PX) (ret : Option FieldType) (nm : String) (Post : PPost) (kc ks : Nat) : Prop :=
  xQ X = MQ (xb X) (pxQ (xD X) (xA X) (xad X) (xn X) (xs X).heap.size Post) (xa X) (xs X) kc ks (px_A (xad X) (xn X) (xs X).heap.size) ∧ (xM X).sig.returnType = ret ∧ (xM X).locks = false ∧ (xM X).name = nm
def MF (M : PMd) (np : Nat) : Prop := plainName M.1.cls = true ∧ (M.1.cls ≠ "java/lang/invoke/MethodHandle" ∧ M.1.cls ≠ "java/lang/invoke/VarHandle" ∧ (parseMethodDescriptor M.1.desc).map (fun d => d.parameters.length) = some np) ∧ Cond.code M.1 M.2.1 M.2.2.1 M.2.2.2.1 ∈ TW ∧ Cond.initialized M.1.cls ∈ TW ∧ M.2.2.1 ≤ 17
def MI (M : PMd) (ci : Nat) : Prop := ci < 9 ∧ px_C ci = M.1.cls ∧ Cond.instanceMethod M.1 ∈ TW ∧ Cond.selects M.1.cls M.1 M.1 ∈ TW
theorem px_ws_good {M : PMd} {np : Nat} (h : MF M np) : GoodIn TW (px_ws M) := fun w hw => by
  rcases List.mem_cons.mp hw with e | e
  · subst e
    exact TW_good _ h.2.2.1
  · exact TW_good _ e
theorem px_lgsl (ad : Nat → Nat) (vs : List Value) : (lg_sl (vs.map (px_v ad))).length = (lg_sl vs).length := by
  unfold lg_sl
  rw [List.length_flatMap, List.length_flatMap, List.map_map]
  congr 1
  apply List.map_congr_left
  intro v _
  simp only [Function.comp, px_v_cat]
  split <;> rfl
theorem px_args (ad : Nat → Nat) : ∀ (i : Nat) (vs : List Value), lv_args i (vs.map (px_v ad)) = px_l ad (lv_args i vs)
  | _, [] => rfl
  | i, v :: vs => by
    rw [List.map_cons, lv_args, lv_args, px_v_cat, px_args ad _ vs]
    rfl
theorem PMet.of {M : PMd} {args : List Value} {sh : Sh} {I : IM} {L : LM} {R : RM} {Post : PPost} {np : Nat} (hM : MF M np) (hlen : (lg_sl args).length ≤ M.2.2.1)
    (body : ∀ X : PX, PXok X M.1.cls M.2.1 M.2.2.2.2.1 M.2.2.2.2.2.1 M.2.2.2.2.2.2 → PXr X M.2.2.2.1 M.1.name Post M.2.2.2.2.2.1 M.2.2.2.2.2.2 → (xc X).maxLocals = M.2.2.1 → PW X 0 (lv_args 0 args) [] sh I L R 0 0) : PMet M args sh I L R Post := by
  intro l D cA ad sz
  refine Met.ofW (cc := M.2.1) (maxL := M.2.2.1) (ret := M.2.2.2.1) hM.1 rfl ?_
  intro p e s m args' below meth c s₁ B hml hv
  obtain ⟨rfl, hsz, hP, hK, hD0, hRb⟩ := hv
  subst hsz
  have hts0 := atoms_spec (ws := px_ws M) B.pre
  have hts : ∀ w ∈ TW, w.before ((args.map (px_v ad)).toArray) s = true := fun w hw => hts0 w (List.mem_cons_of_mem _ hw)
  have hD : va_D (px_A ad sh.length s.heap.size) (px_w cA ad sh I L R) := hD0.weaken (fun k q hk _ => by
    have hl : k < sh.length := by
      have := (List.getElem?_eq_some_iff.mp hk).1
      rwa [px_wl] at this
    rw [px_get (List.getElem?_eq_getElem hl)] at hk
    cases hk
    exact Or.inl ⟨k, hl, rfl⟩)
  have b := body ((p, l, e, (headSpec (px_ws M) (px_room M.2.2.2.2.1 M.2.2.2.2.2.1 M.2.2.2.2.2.2)).room), (s, m, (args.map (px_v ad)).toArray, below), (meth, c), (D, cA), (ad, sh.length), MQ below (pxQ D cA ad sh.length s.heap.size Post) ((args.map (px_v ad)).toArray) s M.2.2.2.2.2.1 M.2.2.2.2.2.2 (px_A ad sh.length s.heap.size))
    ⟨B.exec, B.bytes, hts, findClass_of_methodNamed B.named, hK, Nat.le_refl _, Nat.le_refl _, Nat.le_refl _, Nat.le_refl _⟩ ⟨rfl, B.returns, B.notSynchronized, (name_of_methodNamed B.named B.method).1⟩ hml
  have hl := lv_entry (args.map (px_v ad)) (n := M.2.2.1) (by rw [px_lgsl]; exact hlen)
  rw [lg_entry_eq]
  refine b ad s.heap [] _ ⟨⟨fun _ _ => rfl, Nat.le_refl _, fun _ => rfl, hRb⟩, hP, hD, va_S.rf, ?_⟩
  rw [← px_args]
  show lv_has _ c.maxLocals _
  rw [hml]
  exact hl
section PXC
variable {p : Program} {l : Launch} {e : Env} {Rm : Room} {s : State} {m : MethodId} {args : Array Value} {below : List Frame} {meth : Method} {c : Code} {H : Heap} {locs : List Loc} {cells slots : Nat} {Q : State → Prop}
theorem px_call {pc mc ms n0 : Nat} {ls : Array Slot} {rest st0 : List Value} {a : Array Value} {A0 free : Nat → Prop} {H0 : Heap} {D : va_G} {cA : FieldType → ClassId} {ad : Nat → Nat} {Post : PPost}
    (hr : va_Run p l e Rm s m args below meth c H locs cells slots mc ms (F0 m pc ls st0) rest (pxQ D cA ad n0 H.size Post a) free) (hS : va_S A0 H0 H locs) (hA : ∀ q, px_A ad n0 H.size q → A0 q) (hf : ∀ q, free q → A0 q)
    (kk : ∀ (r : Option Value) (sh' : Sh) (I' : IM) (L' : LM) (R' : RM) (ad' : Nat → Nat) (H1 : Heap) (locs1 : List Loc), Post r sh' I' L' R' → ((∀ i, (i < n0 ∨ 999 ≤ i) → ad' i = ad i) ∧ n0 ≤ sh'.length ∧ (sh'.length = n0 → ad' = ad) ∧ px_Rb sh' R') → va_P D vwCl (px_w cA ad' sh' I' L' R') H1 → va_D (px_A ad n0 H.size) (px_w cA ad' sh' I' L' R') → va_S A0 H0 H1 locs1 →
      W p l e Rm s m args below meth c H1 locs1 (cells + mc) (slots + ms) Q (F0 m (pc + 3) ls ((r.map (px_v ad')).toList ++ rest))) : W p l e Rm s m args below meth c H locs cells slots Q (F0 m pc ls st0) := by
  intro T hT X
  obtain ⟨v, st₀, t, T', L, h0, X', hL, e1, e2, ⟨⟨r, sh', I', L', R', ad', hv, hp, hg, hb, hd⟩, hz, hk⟩, st⟩ := hr T hT X
  cases hv
  rw [h0] at hz hk
  rw [← e1] at hb
  obtain ⟨t2, a1, b1⟩ := kk r sh' I' L' R' ad' T'.heap (locs ++ L) hp hg hb hd
    ⟨Nat.le_trans hS.1 (by rw [e1]; exact hz), fun q h1 h2 => by rw [e1, hk q (Nat.lt_of_lt_of_le h1 hS.1) (fun z => h2 (hA q z))]; exact hS.2.1 q h1 h2, fun q hq => by
      rcases List.mem_append.mp hq with h | h
      · exact hS.2.2 q h
      · exact hf _ (hL q h)⟩ T' rfl X'
  exact ⟨t2, st t2 a1, b1⟩
end PXC
section PXD
variable {X : PX} {own : String} {cc : ByteArray} {d kc ks pc q : Nat} {lv : List (Nat × Value)} {st stk : List Value} {sh : Sh} {I : IM} {L : LM} {R : RM} {k n : Nat} {M : PMd} {np ix : Nat} {Post : PPost}
/-- the callee's room lies in the caller's -/
def CR (M : PMd) (d kc ks k n : Nat) : Prop := M.2.2.2.2.1 + 1 ≤ d ∧ k + M.2.2.2.2.2.1 ≤ kc ∧ n + M.2.2.2.2.2.2 ≤ ks
theorem px_catsum (ad : Nat → Nat) (st : List Value) : ((st.map (px_v ad)).map fun v => v.category).sum = (st.map fun v => v.category).sum := by
  rw [List.map_map]
  congr 1
  exact List.map_congr_left (fun v _ => px_v_cat)
theorem px_AA {ad : Nat → Nat} {H : Heap} {locs : List Loc} {ls : Array Slot} (hp : PH X sh I L R lv ad H locs ls) : ∀ z, px_A ad sh.length H.size z → px_A (xad X) (xn X) (xs X).heap.size z := by
  intro z hz
  rcases hz with ⟨i, hi, rfl⟩ | hz
  · exact hp.2.2.1.2 i _ (px_get (List.getElem?_eq_getElem hi))
  · exact Or.inr (Nat.le_trans hp.2.2.2.1.1 hz)
theorem px_pre {ad : Nat → Nat} {H : Heap} {locs : List Loc} {ls : Array Slot} (h : PXok X own cc d kc ks) (hp : PH X sh I L R lv ad H locs ls) (U : State) (hU : U.heap = H) (hW : (xs X).WarmedH U.vm) : pxP (xD X) (xA X) ad H.size sh I L R U :=
  ⟨by rw [hU], by rw [hU]; exact hp.2.1, pxK_warm hW h.2.2.2.2.1, hp.2.2.1.weaken (fun _ _ _ _ => trivial), hp.1.2.2.2⟩
theorem px_blind {D : va_G} {cA : FieldType → ClassId} {av : List Value} {ad : Nat → Nat} {sz : Nat} : FrameBlind (va_Pc av (pxP D cA ad sz sh I L R)) := fun a U g mk hq => by
  obtain ⟨q0, q1, qP, qK, qD⟩ := hq
  exact ⟨q0, q1, qP, pxK_same (u := U) (U := U.calling g mk a) rfl qK, qD⟩
/-- behind a call of a method that makes no cell -/
def PKk (X : PX) (q : Nat) (lv : List (Nat × Value)) (st : List Value) (sh : Sh) (k n : Nat) (Post : PPost) : Prop := ∀ (r : Option Value) (sh' : Sh) (I' : IM) (L' : LM) (R' : RM), Post r sh' I' L' R' → sh' = sh ∧ PW X q lv (r.toList ++ st) sh I' L' R' k n
/-- the references among values are of cells that were there -/
def px_rok (n : Nat) (v : Value) : Prop := match v with
  | .ref i => i < n ∨ 999 ≤ i
  | _ => True
/-- behind a call of a method that makes cells -/
def PKn (X : PX) (q : Nat) (lv : List (Nat × Value)) (st : List Value) (k n : Nat) (Post : PPost) : Prop := ∀ (r : Option Value) (sh' : Sh) (I' : IM) (L' : LM) (R' : RM), Post r sh' I' L' R' → PW X q lv (r.toList ++ st) sh' I' L' R' k n
theorem px_v_ok {ad ad' : Nat → Nat} {n : Nat} (ha : ∀ i, (i < n ∨ 999 ≤ i) → ad' i = ad i) {v : Value} (hv : px_rok n v) : px_v ad v = px_v ad' v := by
  cases v <;> first | rfl | (show Value.ref _ = Value.ref _; rw [ha _ hv])
theorem px_map_ok {ad ad' : Nat → Nat} {n : Nat} (ha : ∀ i, (i < n ∨ 999 ≤ i) → ad' i = ad i) {st : List Value} (hv : ∀ v ∈ st, px_rok n v) : st.map (px_v ad) = st.map (px_v ad') :=
  List.map_congr_left (fun v h => px_v_ok ha (hv v h))
theorem px_l_ok {ad ad' : Nat → Nat} {n : Nat} (ha : ∀ i, (i < n ∨ 999 ≤ i) → ad' i = ad i) {lv : List (Nat × Value)} (hv : ∀ q ∈ lv, px_rok n q.2) : px_l ad lv = px_l ad' lv :=
  List.map_congr_left (fun q h => by rw [px_v_ok ha (hv q h)])
/-- the run of a callee, whatever call it is, gives the caller's walk -/
theorem px_go {ad : Nat → Nat} {H : Heap} {locs : List Loc} {ls : Array Slot} {mc ms : Nat} {st0 : List Value} {a : Array Value} (hp : PH X sh I L R lv ad H locs ls) (hq : pc + 3 = q)
    (hr : va_Run (xp X) (xl X) (xe X) (xR X) (xs X) (xm X) (xa X) (xb X) (xM X) (xc X) H locs k n mc ms (F0 (xm X) pc ls st0) (st.map (px_v ad)) (pxQ (xD X) (xA X) ad sh.length H.size Post a) (px_A ad sh.length H.size))
    (kk : PKk X q lv st sh (k + mc) (n + ms) Post) : xW X H locs k n (F0 (xm X) pc ls st0) := by
  refine px_call hr hp.2.2.2.1 (px_AA hp) (px_AA hp) ?_
  intro r sh' I' L' R' ad' H1 locs1 hP hg hb hd hS
  obtain ⟨rfl, w⟩ := kk r sh' I' L' R' hP
  have e := hg.2.2.1 rfl
  subst e
  rw [hq]
  have w2 := w ad' H1 locs1 ls ⟨⟨hp.1.1, hp.1.2.1, hp.1.2.2.1, hg.2.2.2⟩, hb, hd.weaken (fun _ _ _ h => px_AA hp _ h), hS, hp.2.2.2.2⟩
  rw [List.map_append] at w2
  cases r <;> exact w2
theorem px_goN {ad : Nat → Nat} {H : Heap} {locs : List Loc} {ls : Array Slot} {mc ms : Nat} {st0 : List Value} {a : Array Value} (hp : PH X sh I L R lv ad H locs ls) (hq : pc + 3 = q) (hv : ∀ v ∈ st, px_rok sh.length v) (hv2 : ∀ q ∈ lv, px_rok sh.length q.2)
    (hr : va_Run (xp X) (xl X) (xe X) (xR X) (xs X) (xm X) (xa X) (xb X) (xM X) (xc X) H locs k n mc ms (F0 (xm X) pc ls st0) (st.map (px_v ad)) (pxQ (xD X) (xA X) ad sh.length H.size Post a) (px_A ad sh.length H.size))
    (kk : PKn X q lv st (k + mc) (n + ms) Post) : xW X H locs k n (F0 (xm X) pc ls st0) := by
  refine px_call hr hp.2.2.2.1 (px_AA hp) (px_AA hp) ?_
  intro r sh' I' L' R' ad' H1 locs1 hP hg hb hd hS
  have w := kk r sh' I' L' R' hP
  rw [hq]
  have w2 := w ad' H1 locs1 ls ⟨⟨fun i hi => (hg.1 i (by rcases hi with hi | hi; exact Or.inl (Nat.lt_of_lt_of_le hi hp.1.2.1); exact Or.inr hi)).trans (hp.1.1 i hi), Nat.le_trans hp.1.2.1 hg.2.1, fun he => by
      have h1 : sh.length = xn X := Nat.le_antisymm (by rw [← he]; exact hg.2.1) hp.1.2.1
      rw [hg.2.2.1 (by rw [he, h1])]
      exact hp.1.2.2.1 h1, hg.2.2.2⟩, hb, hd.weaken (fun _ _ _ h => px_AA hp _ h), hS, by rw [← px_l_ok hg.1 hv2]; exact hp.2.2.2.2⟩
  rw [List.map_append, ← px_map_ok hg.1 hv] at w2
  cases r <;> exact w2
theorem px_stk {ad : Nat → Nat} {i : Nat} {As : List Value} (hst : As.reverse ++ .ref i :: st = stk) : stk.map (px_v ad) = (As.map (px_v ad)).reverse ++ .ref (ad i) :: st.map (px_v ad) := by
  rw [← hst]
  simp [px_v]
theorem px_stkS {ad : Nat → Nat} {As : List Value} (hst : As.reverse ++ st = stk) : stk.map (px_v ad) = (As.map (px_v ad)).reverse ++ st.map (px_v ad) := by
  rw [← hst]
  simp
theorem px_rm (h : PXok X own cc d kc ks) (hM : MF M np) (hR : CR M d kc ks k n) : (px_room M.2.2.2.2.1 M.2.2.2.2.2.1 M.2.2.2.2.2.2).frames + 1 ≤ (xR X).frames ∧ 8 + (M.2.2.1 + 11) + (px_room M.2.2.2.2.1 M.2.2.2.2.2.1 M.2.2.2.2.2.2).locals ≤ (xR X).locals := by
  have h1 := h.2.2.2.2.2.1
  have h2 := h.2.2.2.2.2.2.1
  have h3 := hM.2.2.2.2
  have h4 := hR.1
  show M.2.2.2.2.1 + 1 ≤ _ ∧ 8 + (M.2.2.1 + 11) + 36 * M.2.2.2.2.1 ≤ _
  omega
theorem px_cb (h : PXok X own cc d kc ks) (hM : MF M np) (hR : CR M d kc ks k n) (hl : Cond.methodLink own ix M.1 ∈ TW) : CallB (xR X) (xs X) (xa X) own ix M.1 M.2.1 M.2.2.1 M.2.2.2.1 (px_ws M) (px_room M.2.2.2.2.1 M.2.2.2.2.2.1 M.2.2.2.2.2.2) M.2.2.2.2.2.1 M.2.2.2.2.2.2 np :=
  callB_of np h.2.2.1 (px_ws_good hM) rfl rfl rfl (h.2.2.1 _ hM.2.2.2.1) (h.2.2.1 _ hl) hM.2.1 (px_rm h hM hR)
theorem pw_callV {i ci : Nat} {As : List Value} (h : PXok X own cc d kc ks) (dc : Dc cc pc (.invokevirtual ix) 3 q) (hM : MF M np) (hI : MI M ci) (hl : Cond.methodLink own ix M.1 ∈ TW) (hR : CR M d kc ks k n) (hs : sh[i]? = some (.inl ci)) (hst : As.reverse ++ .ref i :: st = stk) (hn : As.length = np) (hcat : (st.map fun v => v.category).sum ≤ 8) (hnL : True)
    (hc : PMet M (.ref i :: As) sh I L R Post) (kk : PKk X q lv st sh (k + M.2.2.2.2.2.1) (n + M.2.2.2.2.2.2) Post) : PW X pc lv stk sh I L R k n := by
  intro ad H locs ls hp
  rw [px_stk hst]
  have hcls : (px_C ci) = M.1.cls := hI.2.1
  refine px_go hp dc.2 (va_runV (As := As.map (px_v ad)) (b := ad i) (C := M.1.cls) (n := np) (nL := (xc X).maxLocals) ⟨h.1, h.2.1, rfl, h.2.2.2.1, h.2.2.1⟩ (hc (xl X) (xD X) (xA X) ad H.size) ⟨px_cb h hM hR hl, h.2.2.1 _ hI.2.2.1, h.2.2.1 _ hI.2.2.2⟩ ⟨px_blind, ?_, fun U hU hW => ⟨rfl, px_pre h hp U hU hW⟩⟩ rfl (by rw [List.length_map]; exact hn) hp.2.2.2.2.1 rfl (lv_room (by rw [px_catsum]; exact hcat)) dc.1 ?_) kk
  · rw [← hcls]
    exact va_recv h.2.2.2.2.1.1 hp.2.1 (px_cl hI.1) (px_get hs)
  · exact ⟨Nat.le_trans hR.2.1 h.2.2.2.2.2.2.2.1, Nat.le_trans hR.2.2 h.2.2.2.2.2.2.2.2⟩
theorem pw_callS {As : List Value} (h : PXok X own cc d kc ks) (dc : Dc cc pc (.invokestatic ix) 3 q) (hM : MF M np) (hS : Cond.static M.1 ∈ TW) (hl : Cond.methodLink own ix M.1 ∈ TW) (hR : CR M d kc ks k n) (hst : As.reverse ++ st = stk) (hn : As.length = np) (hcat : (st.map fun v => v.category).sum ≤ 8)
    (hc : PMet M As sh I L R Post) (kk : PKk X q lv st sh (k + M.2.2.2.2.2.1) (n + M.2.2.2.2.2.2) Post) : PW X pc lv stk sh I L R k n := by
  intro ad H locs ls hp
  rw [px_stkS hst]
  refine px_go hp dc.2 (va_runS (As := As.map (px_v ad)) (n := np) (nL := (xc X).maxLocals) ⟨h.1, h.2.1, rfl, h.2.2.2.1, h.2.2.1⟩ (hc (xl X) (xD X) (xA X) ad H.size) ⟨px_cb h hM hR hl, h.2.2.1 _ hS⟩ ⟨px_blind, fun U hU hW => ⟨rfl, px_pre h hp U hU hW⟩⟩ rfl (by rw [List.length_map]; exact hn) hp.2.2.2.2.1 rfl (lv_room (by rw [px_catsum]; exact hcat)) dc.1 ?_) kk
  exact ⟨Nat.le_trans hR.2.1 h.2.2.2.2.2.2.2.1, Nat.le_trans hR.2.2 h.2.2.2.2.2.2.2.2⟩
theorem px_cn {host : String} (h : PXok X own cc d kc ks) (hM : MF M np) (hR : CR M d kc ks k n) (hl : (own, ix, M.1, host) ∈ px_nw) : va_CN (xR X) (xs X) (xa X) own ix M.1 host M.2.1 M.2.2.1 M.2.2.2.1 (px_ws M) (px_room M.2.2.2.2.1 M.2.2.2.2.2.1 M.2.2.2.2.2.2) M.2.2.2.2.2.1 M.2.2.2.2.2.2 np :=
  va_cnB np h.2.2.1 (px_ws_good hM) rfl rfl rfl (h.2.2.2.2.1.2.1 _ hl) (h.2.2.1 _ hM.2.2.2.1) hM.2.1 (px_rm h hM hR)
theorem pw_callSN {As : List Value} {host : String} (h : PXok X own cc d kc ks) (dc : Dc cc pc (.invokestatic ix) 3 q) (hM : MF M np) (hS : Cond.static M.1 ∈ TW) (hl : (own, ix, M.1, host) ∈ px_nw) (hR : CR M d kc ks k n) (hst : As.reverse ++ st = stk) (hn : As.length = np) (hcat : (st.map fun v => v.category).sum ≤ 8)
    (hc : PMet M As sh I L R Post) (kk : PKk X q lv st sh (k + M.2.2.2.2.2.1) (n + M.2.2.2.2.2.2) Post) : PW X pc lv stk sh I L R k n := by
  intro ad H locs ls hp
  rw [px_stkS hst]
  refine px_go hp dc.2 (va_runSN (As := As.map (px_v ad)) (n := np) (nL := (xc X).maxLocals) ⟨h.1, h.2.1, rfl, h.2.2.2.1, h.2.2.1⟩ (hc (xl X) (xD X) (xA X) ad H.size) ⟨px_cn h hM hR hl, h.2.2.1 _ hS, trivial⟩ ⟨px_blind, fun U hU hW => ⟨rfl, px_pre h hp U hU hW⟩⟩ rfl (by rw [List.length_map]; exact hn) hp.2.2.2.2.1 rfl (lv_room (by rw [px_catsum]; exact hcat)) dc.1 ?_) kk
  exact ⟨Nat.le_trans hR.2.1 h.2.2.2.2.2.2.2.1, Nat.le_trans hR.2.2 h.2.2.2.2.2.2.2.2⟩
/-- a constructor of a nest mate: it makes cells -/
theorem pw_callIN {i : Nat} {As : List Value} {host : String} (h : PXok X own cc d kc ks) (dc : Dc cc pc (.invokespecial ix) 3 q) (hM : MF M np) (hret : M.2.2.2.1 = none) (hnm : M.1.name = "<init>") (him : Cond.instanceMethod M.1 ∈ TW) (hl : (own, ix, M.1, host) ∈ px_nw) (hR : CR M d kc ks k n) (hst : As.reverse ++ .ref i :: st = stk) (hn : As.length = np) (hcat : (st.map fun v => v.category).sum ≤ 8) (hv : ∀ v ∈ st, px_rok sh.length v) (hv2 : ∀ q ∈ lv, px_rok sh.length q.2)
    (hc : PMet M (.ref i :: As) sh I L R Post) (kk : PKn X q lv st (k + M.2.2.2.2.2.1) (n + M.2.2.2.2.2.2) Post) : PW X pc lv stk sh I L R k n := by
  intro ad H locs ls hp
  rw [px_stk hst]
  have hb := px_cn h hM hR hl
  rw [hret] at hb
  refine px_goN hp dc.2 hv hv2 (va_runIN (As := As.map (px_v ad)) (b := ad i) (n := np) (nL := (xc X).maxLocals) ⟨h.1, h.2.1, rfl, h.2.2.2.1, h.2.2.1⟩ (hc (xl X) (xD X) (xA X) ad H.size) ⟨hb, hnm, h.2.2.1 _ him⟩ ⟨px_blind, fun U hU hW => ⟨rfl, px_pre h hp U hU hW⟩⟩ rfl (by rw [List.length_map]; exact hn) hp.2.2.2.2.1 rfl (lv_room (by rw [px_catsum]; exact hcat)) dc.1 ?_) kk
  exact ⟨Nat.le_trans hR.2.1 h.2.2.2.2.2.2.2.1, Nat.le_trans hR.2.2 h.2.2.2.2.2.2.2.2⟩
theorem pw_callI {i : Nat} {As : List Value} (h : PXok X own cc d kc ks) (dc : Dc cc pc (.invokespecial ix) 3 q) (hM : MF M np) (hret : M.2.2.2.1 = none) (hnm : M.1.name = "<init>") (him : Cond.instanceMethod M.1 ∈ TW) (hl : Cond.methodLink own ix M.1 ∈ TW) (hR : CR M d kc ks k n) (hst : As.reverse ++ .ref i :: st = stk) (hn : As.length = np) (hcat : (st.map fun v => v.category).sum ≤ 8) (hv : ∀ v ∈ st, px_rok sh.length v) (hv2 : ∀ q ∈ lv, px_rok sh.length q.2)
    (hc : PMet M (.ref i :: As) sh I L R Post) (kk : PKn X q lv st (k + M.2.2.2.2.2.1) (n + M.2.2.2.2.2.2) Post) : PW X pc lv stk sh I L R k n := by
  intro ad H locs ls hp
  rw [px_stk hst]
  have hb := px_cb h hM hR hl
  rw [hret] at hb
  refine px_goN hp dc.2 hv hv2 (va_runI (As := As.map (px_v ad)) (b := ad i) (n := np) (nL := (xc X).maxLocals) ⟨h.1, h.2.1, rfl, h.2.2.2.1, h.2.2.1⟩ (hc (xl X) (xD X) (xA X) ad H.size) ⟨hb, hnm, h.2.2.1 _ him⟩ ⟨px_blind, fun U hU hW => ⟨rfl, px_pre h hp U hU hW⟩⟩ rfl (by rw [List.length_map]; exact hn) hp.2.2.2.2.1 rfl (lv_room (by rw [px_catsum]; exact hcat)) dc.1 ?_) kk
  exact ⟨Nat.le_trans hR.2.1 h.2.2.2.2.2.2.2.1, Nat.le_trans hR.2.2 h.2.2.2.2.2.2.2.2⟩
theorem pw_iret {ty : FieldType} {nm : String} {v : Int32} (h : PXok X own cc d kc ks) (r : PXr X (some ty) nm Post kc ks) (dc : Dc cc pc .ireturn 1 q) (hn : narrow ty (.int v) = .int v) (hk : k ≤ kc) (hks : n ≤ ks) (hp : Post (some (.int v)) sh I L R) : PW X pc lv [.int v] sh I L R k n := by
  intro ad H locs ls hh
  have e : xW X H locs k n (F0 (xm X) pc ls [.int v]) := by
    unfold xW
    rw [r.1]
    refine W.widen hk hks ?_
    exact W.zret h.1 h.2.1 r.2.1 hn (fun t ht hW => ⟨⟨some (.int v), sh, I, L, R, ad, rfl, hp, hh.1, by rw [ht]; exact hh.2.1, hh.2.2.1⟩, hh.2.2.2.1.F ht⟩) hh.2.2.2.1.2.2 dc.1 r.2.2.1
  exact e
theorem pw_lret {nm : String} {v : Int64} (h : PXok X own cc d kc ks) (r : PXr X (some .long) nm Post kc ks) (dc : Dc cc pc .lreturn 1 q) (hk : k ≤ kc) (hks : n ≤ ks) (hp : Post (some (.long v)) sh I L R) : PW X pc lv [.long v] sh I L R k n := by
  intro ad H locs ls hh
  have e : xW X H locs k n (F0 (xm X) pc ls [.long v]) := by
    unfold xW
    rw [r.1]
    refine W.widen hk hks ?_
    exact W.lret h.1 h.2.1 r.2.1 (fun t ht hW => ⟨⟨some (.long v), sh, I, L, R, ad, rfl, hp, hh.1, by rw [ht]; exact hh.2.1, hh.2.2.1⟩, hh.2.2.2.1.F ht⟩) hh.2.2.2.1.2.2 dc.1 r.2.2.1
  exact e
theorem pw_vret {nm : String} (h : PXok X own cc d kc ks) (r : PXr X none nm Post kc ks) (dc : Dc cc pc .return_ 1 q) (hk : k ≤ kc) (hks : n ≤ ks) (hp : Post none sh I L R) : PW X pc lv [] sh I L R k n := by
  intro ad H locs ls hh
  have e : xW X H locs k n (F0 (xm X) pc ls []) := by
    unfold xW
    rw [r.1]
    refine W.widen hk hks ?_
    exact W.vret h.1 h.2.1 r.2.1 (fun t ht hW => ⟨⟨none, sh, I, L, R, ad, rfl, hp, hh.1, by rw [ht]; exact hh.2.1, hh.2.2.1⟩, hh.2.2.2.1.F ht⟩) hh.2.2.2.1.2.2 dc.1 r.2.2.1
  exact e
end PXD
