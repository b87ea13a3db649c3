/-! rows of the pure layer that make cells: objects, arrays, arrays of arrays; Object's constructor; the script -/
def nI0 (I : IM) (c : Nat) : IM := u1 I c (fun _ => 0)
def nL0 (L : LM) (c : Nat) : LM := u1 L c (fun _ => 0)
def nR0 (R : RM) (c : Nat) : RM := u1 R c (fun _ => none)
theorem nI0_o {I : IM} {c i : Nat} (h : i ≠ c) : nI0 I c i = I i := funext fun _ => if_neg h
theorem nL0_o {L : LM} {c i : Nat} (h : i ≠ c) : nL0 L c i = L i := funext fun _ => if_neg h
theorem nR0_o {R : RM} {c i : Nat} (h : i ≠ c) : nR0 R c i = R i := funext fun _ => if_neg h
theorem nI0_s {I : IM} {c : Nat} : nI0 I c c = fun _ => 0 := funext fun _ => if_pos rfl
theorem nL0_s {L : LM} {c : Nat} : nL0 L c c = fun _ => 0 := funext fun _ => if_pos rfl
theorem nR0_s {R : RM} {c : Nat} : nR0 R c c = fun _ => none := funext fun _ => if_pos rfl
/-- old cells as they were -/
def px_old (sh : Sh) (ad ad' : Nat → Nat) (I I' : IM) (L L' : LM) (R R' : RM) : Prop := ∀ i, i < sh.length → ad' i = ad i ∧ I' i = I i ∧ L' i = L i ∧ R' i = R i
theorem px_fld_old {ad ad' : Nat → Nat} {I I' : IM} {L L' : LM} {R R' : RM} {i k : Nat} {ty : FieldType} (hI : I' i = I i) (hL : L' i = L i) (hR : (R' i k).map ad' = (R i k).map ad) : px_fld ad' I' L' R' i k ty = px_fld ad I L R i k ty := by
  unfold px_fld
  rw [hI, hL, hR]
theorem px_ent_old {cA : FieldType → ClassId} {sh : Sh} {ad ad' : Nat → Nat} {I I' : IM} {L L' : LM} {R R' : RM} (ho : px_old sh ad ad' I I' L L' R R') (hb : px_Rb sh R) {i : Nat} (hi : i < sh.length) (k : Kd) : px_ent cA ad' I' L' R' i k = px_ent cA ad I L R i k := by
  obtain ⟨h0, h1, h2, h3⟩ := ho i hi
  have hR : ∀ j, (R' i j).map ad' = (R i j).map ad := fun j => by
    rw [h3]
    cases e : R i j with
    | none => rfl
    | some z => exact congrArg some (ho z (hb i j z hi e)).1
  unfold px_ent
  cases k with
  | inl ci =>
    show Sum.inr (ci, px_fs ad' I' L' R' i ci) = Sum.inr (ci, px_fs ad I L R i ci)
    unfold px_fs
    congr 2
    exact List.map_congr_left (fun k _ => px_fld_old h1 h2 (hR k))
  | inr a =>
    show Sum.inl (cA a.1, px_arr ad' I' L' R' i a.2 a.1) = Sum.inl (cA a.1, px_arr ad I L R i a.2 a.1)
    unfold px_arr
    rw [h1, h2, funext hR]
theorem px_w_ext {cA : FieldType → ClassId} {sh ks : Sh} {ad ad' : Nat → Nat} {I I' : IM} {L L' : LM} {R R' : RM} (ho : px_old sh ad ad' I I' L L' R R') (hb : px_Rb sh R) : px_w cA ad' (sh ++ ks) I' L' R' = px_w cA ad sh I L R ++ (List.range ks.length).map (fun i => (ad' (sh.length + i), px_ent cA ad' I' L' R' (sh.length + i) (ks.getD i (.inl 0)))) := by
  unfold px_w
  rw [List.length_append, List.range_add, List.map_append, List.map_map]
  congr 1
  · refine List.map_congr_left (fun i hi => ?_)
    have hi := List.mem_range.mp hi
    have e : (sh ++ ks).getD i (.inl 0) = sh.getD i (.inl 0) := by
      rw [List.getD_eq_getElem?_getD, List.getD_eq_getElem?_getD, List.getElem?_append_left hi]
    rw [e, px_ent_old ho hb hi, (ho i hi).1]
  · refine List.map_congr_left (fun i hi => ?_)
    have e : (sh ++ ks).getD (sh.length + i) (.inl 0) = ks.getD i (.inl 0) := by
      rw [List.getD_eq_getElem?_getD, List.getD_eq_getElem?_getD, List.getElem?_append_right (by omega), Nat.add_sub_cancel_left]
    show (ad' (sh.length + i), px_ent cA ad' I' L' R' (sh.length + i) ((sh ++ ks).getD (sh.length + i) (.inl 0))) = _
    rw [e]
def nAd (ad : Nat → Nat) (c q : Nat) : Nat → Nat := fun i => if i = c then q else ad i
theorem px_old_1 {sh : Sh} {ad : Nat → Nat} {I : IM} {L : LM} {R : RM} {q : Nat} : px_old sh ad (nAd ad sh.length q) I (nI0 I sh.length) L (nL0 L sh.length) R (nR0 R sh.length) := fun i hi =>
  ⟨if_neg (by omega), nI0_o (by omega), nL0_o (by omega), nR0_o (by omega)⟩
theorem px_w_1 {cA : FieldType → ClassId} {sh : Sh} {kd : Kd} {ad : Nat → Nat} {I : IM} {L : LM} {R : RM} {q : Nat} (hb : px_Rb sh R) : px_w cA (nAd ad sh.length q) (sh ++ [kd]) (nI0 I sh.length) (nL0 L sh.length) (nR0 R sh.length) = px_w cA ad sh I L R ++ [(q, px_ent cA (nAd ad sh.length q) (nI0 I sh.length) (nL0 L sh.length) (nR0 R sh.length) sh.length kd)] := by
  rw [px_w_ext px_old_1 hb]
  show _ ++ [(nAd ad sh.length q (sh.length + 0), px_ent cA (nAd ad sh.length q) (nI0 I sh.length) (nL0 L sh.length) (nR0 R sh.length) (sh.length + 0) kd)] = _
  rw [Nat.add_zero, show nAd ad sh.length q sh.length = q from if_pos rfl]
theorem ra_eq {U : State} {ty : FieldType} {a b : ClassId} (h1 : va_RA U a ty) (h2 : va_RA U b ty) : a = b := by
  cases ty with
  | object C =>
    obtain ⟨_, _, _, _, _, e1⟩ := h1
    obtain ⟨_, _, _, _, _, e2⟩ := h2
    exact Option.some.inj (e1.symm.trans e2)
  | _ => exact Option.some.inj (Eq.trans (Eq.symm h1) h2)
section PXN
variable {X : PX} {own : String} {cc : ByteArray} {d kc ks pc q : Nat} {lv : List (Nat × Value)} {st : List Value} {sh : Sh} {I : IM} {L : LM} {R : RM} {k n : Nat}
theorem px_tyA {t0 : Nat} {ty : FieldType} {cA : ClassId} (h : PXok X own cc d kc ks) (ht : ∀ cA, (px_tys cA)[t0]? = some (cA ty, ty)) (hK : va_K (xD X) vwCl (px_tys (xA X) ++ [(cA, ty)]) (xs X)) : cA = xA X ty := by
  have h1 := (h.2.2.2.2.1.1.2 t0 _ (ht (xA X))).2
  have h2 := (hK.2 (px_tys (xA X)).length (cA, ty) (by rw [List.getElem?_append_right (Nat.le_refl _), Nat.sub_self]; rfl)).2
  exact ra_eq h2 h1
theorem PH.ext {ks2 : Sh} {ad ad' : Nat → Nat} {I' : IM} {L' : LM} {R' : RM} {H H1 : Heap} {locs : List Loc} {ls : Array Slot} (hp : PH X sh I L R lv ad H locs ls) (hk : 0 < ks2.length) (h9 : sh.length + ks2.length ≤ 999) (hold : ∀ i, (i < sh.length ∨ 999 ≤ i) → ad' i = ad i) (hRb : px_Rb (sh ++ ks2) R') (hv2 : ∀ q ∈ lv, px_rok sh.length q.2)
    (hP : va_P (xD X) vwCl (px_w (xA X) ad' (sh ++ ks2) I' L' R') H1) (hD : va_D (px_A (xad X) (xn X) (xs X).heap.size) (px_w (xA X) ad' (sh ++ ks2) I' L' R')) (hS : va_S (px_A (xad X) (xn X) (xs X).heap.size) (xs X).heap H1 locs) : PH X (sh ++ ks2) I' L' R' lv ad' H1 locs ls := by
  have hn := hp.1.2.1
  refine ⟨⟨fun i hi => ?_, ?_, fun e => ?_, hRb⟩, hP, hD, hS, ?_⟩
  · rw [hold i (by omega)]
    exact hp.1.1 i hi
  · rw [List.length_append]; omega
  · rw [List.length_append] at e; omega
  · rw [← px_l_ok (ad := ad) (ad' := ad') hold hv2]
    exact hp.2.2.2.2
theorem nAd_old {ad : Nat → Nat} {q : Nat} (h9 : sh.length < 999) : ∀ i, (i < sh.length ∨ 999 ≤ i) → nAd ad sh.length q i = ad i := fun i hi => if_neg (by omega)
theorem px_Rb_1 {kd : Kd} (h : px_Rb sh R) : px_Rb (sh ++ [kd]) (nR0 R sh.length) := fun i k j hi e => by
  rw [List.length_append] at hi ⊢
  by_cases c : i = sh.length
  · rw [c, nR0_s] at e
    cases e
  · rw [nR0_o c] at e
    have hi : i < sh.length := by
      have : ([kd] : Sh).length = 1 := rfl
      omega
    have := h i k j hi e
    omega
theorem px_cells {m1 : Nat} (h : PXok X own cc d kc ks) (hk : k + m1 ≤ kc) : k + m1 ≤ (xR X).cells := Nat.le_trans hk h.2.2.2.2.2.2.2.1
theorem px_slots {m1 : Nat} (h : PXok X own cc d kc ks) (hk : n + m1 ≤ ks) : n + m1 ≤ (xR X).slots := Nat.le_trans hk h.2.2.2.2.2.2.2.2
/-- a new array of ints, longs or bytes -/
theorem pw_newa {N t0 : Nat} {x : Int32} {aty : ArrayType} {ty : FieldType} {a0 : vp_A} (h : PXok X own cc d kc ks) (dc : Dc cc pc (.newarray aty) 2 q) (hty : newarray.typeOf aty = ty) (harr : Cond.arrayClass ty ∈ TW) (ht : ∀ cA, (px_tys cA)[t0]? = some (cA ty, ty)) (ha : ∀ cA : ClassId, vp_cell cA a0 = arrV cA N (fun _ => defaultValue ty)) (hpa : ∀ (ad : Nat → Nat) (c : Nat), px_arr ad (nI0 I c) (nL0 L c) (nR0 R c) c N ty = a0) (hx : ¬ x < 0) (hxN : x.toNatClampNeg = N) (hb : N * componentBytes ty ≤ 536870912) {c : Nat} (hc : sh.length = c) (h9 : c < 999) (hv : ∀ v ∈ st, px_rok c v) (hv2 : ∀ q ∈ lv, px_rok c q.2) (hkc : k + 1 ≤ kc) (hks : n + N ≤ ks)
    (kk : PW X q lv (.ref c :: st) (sh ++ [.inr (ty, N)]) (nI0 I c) (nL0 L c) (nR0 R c) (k + 1) (n + N)) : PW X pc lv (.int x :: st) sh I L R k n := by
  intro ad H locs ls hp
  subst hc
  refine va_newa (a0 := a0) h.1 h.2.1 (h.2.2.1 _ (by rw [hty]; exact harr)) hty h.2.2.2.2.1.1 hp.2.1 hp.2.2.1 hp.2.2.2.1 (fun q hq => Or.inr hq) ha hx hxN hb (px_cells h hkc) (px_slots h hks) dc.1 (fun z cA H1 hK hP hD hS => ?_)
  have e := px_tyA h ht hK
  subst e
  have ew := px_w_1 (cA := xA X) (kd := .inr (ty, N)) (ad := ad) (I := I) (L := L) (q := z) hp.1.2.2.2
  have ee : px_ent (xA X) (nAd ad sh.length z) (nI0 I sh.length) (nL0 L sh.length) (nR0 R sh.length) sh.length (.inr (ty, N)) = .inl (xA X ty, a0) := by
    show Sum.inl (xA X ty, px_arr _ _ _ _ _ N ty) = _
    rw [hpa]
  rw [ee] at ew
  rw [← ew] at hP hD
  rw [dc.2]
  have w := kk (nAd ad sh.length z) H1 locs ls (hp.ext (by exact Nat.zero_lt_one) (by have : ([.inr (ty, N)] : Sh).length = 1 := rfl; omega) (nAd_old h9) (px_Rb_1 hp.1.2.2.2) hv2 hP hD hS)
  rw [List.map_cons, ← px_map_ok (nAd_old h9) hv] at w
  have er : px_v (nAd ad sh.length z) (.ref sh.length) = .ref z := by
    show Value.ref (nAd ad sh.length z sh.length) = _
    rw [show nAd ad sh.length z sh.length = z from if_pos rfl]
  rw [er] at w
  exact w
theorem pw_newI {N : Nat} {x : Int32} (h : PXok X own cc d kc ks) (dc : Dc cc pc (.newarray .int) 2 q) (hx : ¬ x < 0) (hxN : x.toNatClampNeg = N) (hb : N * 4 ≤ 536870912) {c : Nat} (hc : sh.length = c) (h9 : c < 999) (hv : ∀ v ∈ st, px_rok c v) (hv2 : ∀ q ∈ lv, px_rok c q.2) (hkc : k + 1 ≤ kc) (hks : n + N ≤ ks)
    (kk : PW X q lv (.ref c :: st) (sh ++ [.inr (.int, N)]) (nI0 I c) (nL0 L c) (nR0 R c) (k + 1) (n + N)) : PW X pc lv (.int x :: st) sh I L R k n :=
  pw_newa (t0 := 0) (a0 := (N, .inl (fun _ => 0))) h dc rfl ac_int (fun _ => rfl) (fun _ => rfl) (fun ad c => by show (N, Sum.inl (nI0 I c c)) = _; rw [nI0_s]) hx hxN hb hc h9 hv hv2 hkc hks kk
theorem pw_newL {N : Nat} {x : Int32} (h : PXok X own cc d kc ks) (dc : Dc cc pc (.newarray .long) 2 q) (hx : ¬ x < 0) (hxN : x.toNatClampNeg = N) (hb : N * 8 ≤ 536870912) {c : Nat} (hc : sh.length = c) (h9 : c < 999) (hv : ∀ v ∈ st, px_rok c v) (hv2 : ∀ q ∈ lv, px_rok c q.2) (hkc : k + 1 ≤ kc) (hks : n + N ≤ ks)
    (kk : PW X q lv (.ref c :: st) (sh ++ [.inr (.long, N)]) (nI0 I c) (nL0 L c) (nR0 R c) (k + 1) (n + N)) : PW X pc lv (.int x :: st) sh I L R k n :=
  pw_newa (t0 := 1) (a0 := (N, .inr (.inl (fun _ => 0)))) h dc rfl ac_long (fun _ => rfl) (fun _ => rfl) (fun ad c => by show (N, Sum.inr (Sum.inl (nL0 L c c))) = _; rw [nL0_s]) hx hxN hb hc h9 hv hv2 hkc hks kk
theorem pw_newB {N : Nat} {x : Int32} (h : PXok X own cc d kc ks) (dc : Dc cc pc (.newarray .byte) 2 q) (hx : ¬ x < 0) (hxN : x.toNatClampNeg = N) (hb : N * 1 ≤ 536870912) {c : Nat} (hc : sh.length = c) (h9 : c < 999) (hv : ∀ v ∈ st, px_rok c v) (hv2 : ∀ q ∈ lv, px_rok c q.2) (hkc : k + 1 ≤ kc) (hks : n + N ≤ ks)
    (kk : PW X q lv (.ref c :: st) (sh ++ [.inr (.byte, N)]) (nI0 I c) (nL0 L c) (nR0 R c) (k + 1) (n + N)) : PW X pc lv (.int x :: st) sh I L R k n :=
  pw_newa (t0 := 2) (a0 := (N, .inl (fun _ => 0))) h dc rfl ac_byte (fun _ => rfl) (fun _ => rfl) (fun ad c => by show (N, Sum.inl (nI0 I c c)) = _; rw [nI0_s]) hx hxN hb hc h9 hv hv2 hkc hks kk
/-- a new array of sheets -/
theorem pw_newq {N index : Nat} {x : Int32} (h : PXok X own cc d kc ks) (dc : Dc cc pc (.anewarray index) 3 q) (hcl : Cond.classLink own index RX6 ∈ TW) (hx : ¬ x < 0) (hxN : x.toNatClampNeg = N) (hb : N * 4 ≤ 536870912) {c : Nat} (hc : sh.length = c) (h9 : c < 999) (hv : ∀ v ∈ st, px_rok c v) (hv2 : ∀ q ∈ lv, px_rok c q.2) (hkc : k + 1 ≤ kc) (hks : n + N ≤ ks)
    (kk : PW X q lv (.ref c :: st) (sh ++ [.inr (.object RX6, N)]) (nI0 I c) (nL0 L c) (nR0 R c) (k + 1) (n + N)) : PW X pc lv (.int x :: st) sh I L R k n := by
  intro ad H locs ls hp
  subst hc
  refine va_newq h.1 h.2.1 h.2.2.2.1 (h.2.2.1 _ hcl) h.2.2.2.2.1.2.2.1 h.2.2.2.2.1.1 hp.2.1 hp.2.2.1 hp.2.2.2.1 (fun q hq => Or.inr hq) hx hxN hb (px_cells h hkc) (px_slots h hks) dc.1 (fun z cA H1 hK hP hD hS => ?_)
  have e := px_tyA (t0 := 3) h (fun _ => rfl) hK
  subst e
  have ew := px_w_1 (cA := xA X) (kd := .inr (.object RX6, N)) (ad := ad) (I := I) (L := L) (q := z) hp.1.2.2.2
  have ee : px_ent (xA X) (nAd ad sh.length z) (nI0 I sh.length) (nL0 L sh.length) (nR0 R sh.length) sh.length (.inr (.object RX6, N)) = .inl (xA X (.object RX6), N, .inr (.inr (.inr (.inr (fun _ => none))))) := by
    show Sum.inl (xA X (.object RX6), N, Sum.inr (Sum.inr (Sum.inr (Sum.inr (fun j => (nR0 R sh.length sh.length j).map (nAd ad sh.length z)))))) = _
    rw [nR0_s]
    rfl
  rw [ee] at ew
  rw [← ew] at hP hD
  rw [dc.2]
  have w := kk (nAd ad sh.length z) H1 locs ls (hp.ext (by exact Nat.zero_lt_one) (by have : ([.inr (.object RX6, N)] : Sh).length = 1 := rfl; omega) (nAd_old h9) (px_Rb_1 hp.1.2.2.2) hv2 hP hD hS)
  rw [List.map_cons, ← px_map_ok (nAd_old h9) hv] at w
  have er : px_v (nAd ad sh.length z) (.ref sh.length) = .ref z := by
    show Value.ref (nAd ad sh.length z sh.length) = _
    rw [show nAd ad sh.length z sh.length = z from if_pos rfl]
  rw [er] at w
  exact w
/-- fields' types that the classes have: their default values -/
def px_nf (ty : FieldType) : Bool := match ty with
  | .float => false
  | .double => false
  | _ => true
theorem px_nf_ok : ∀ ci, ci < 9 → ∀ k, k < px_n ci → px_nf (px_ty ci k) = true := by decide +kernel
theorem px_def {ad : Nat → Nat} {c k : Nat} {ty : FieldType} (h : px_nf ty = true) : defaultValue ty = px_fld ad (nI0 I c) (nL0 L c) (nR0 R c) c k ty := by
  unfold px_fld
  rw [nI0_s, nL0_s, nR0_s]
  cases ty <;> first | rfl | cases h
/-- a new object -/
theorem pw_new {ci index : Nat} (h : PXok X own cc d kc ks) (dc : Dc cc pc (.new index) 3 q) (hci : ci < 9) (hcl : Cond.classLink own index (px_C ci) ∈ TW) (hins : Cond.instantiable (px_C ci) (px_n ci) ∈ TW) (hini : Cond.initialized (px_C ci) ∈ TW) {c : Nat} (hc : sh.length = c) (h9 : c < 999) (hv : ∀ v ∈ st, px_rok c v) (hv2 : ∀ q ∈ lv, px_rok c q.2) (hkc : k + 1 ≤ kc) (hks : n + px_n ci ≤ ks)
    (kk : PW X q lv (.ref c :: st) (sh ++ [.inl ci]) (nI0 I c) (nL0 L c) (nR0 R c) (k + 1) (n + px_n ci)) : PW X pc lv st sh I L R k n := by
  intro ad H locs ls hp
  subst hc
  have hd : ∀ z j, j < px_n ci → defaultValue (px_ty ci j) = vp_V (px_fs (nAd ad sh.length z) (nI0 I sh.length) (nL0 L sh.length) (nR0 R sh.length) sh.length ci) j := fun z j hj => by
    unfold vp_V
    rw [List.getD_eq_getElem?_getD, px_fs_get hj]
    exact px_def (px_nf_ok ci hci j hj)
  have e0 : ∀ z, px_fs (nAd ad sh.length z) (nI0 I sh.length) (nL0 L sh.length) (nR0 R sh.length) sh.length ci = px_fs (nAd ad sh.length 0) (nI0 I sh.length) (nL0 L sh.length) (nR0 R sh.length) sh.length ci := fun z => by
    unfold px_fs
    refine List.map_congr_left (fun j hj => ?_)
    rw [← px_def (px_nf_ok ci hci j (List.mem_range.mp hj)), ← px_def (px_nf_ok ci hci j (List.mem_range.mp hj))]
  refine va_new (fs := px_fs (nAd ad sh.length 0) (nI0 I sh.length) (nL0 L sh.length) (nR0 R sh.length) sh.length ci) h.1 h.2.1 h.2.2.1 (px_in hci) (px_ty ci) (px_tyok hci) h.2.2.2.1 (h.2.2.1 _ hcl) (h.2.2.1 _ hins) (h.2.2.1 _ hini) h.2.2.2.2.1.1 hp.2.1 hp.2.2.1 hp.2.2.2.1 (fun q hq => Or.inr hq) (px_cl hci) (hd 0) (px_cells h hkc) (px_slots h hks) dc.1 (fun z H1 hP hD hS => ?_)
  have ew := px_w_1 (cA := xA X) (kd := .inl ci) (ad := ad) (I := I) (L := L) (q := z) hp.1.2.2.2
  have ee : px_ent (xA X) (nAd ad sh.length z) (nI0 I sh.length) (nL0 L sh.length) (nR0 R sh.length) sh.length (.inl ci) = .inr (ci, px_fs (nAd ad sh.length 0) (nI0 I sh.length) (nL0 L sh.length) (nR0 R sh.length) sh.length ci) := by
    show Sum.inr (ci, px_fs _ _ _ _ _ ci) = _
    rw [e0]
  rw [ee] at ew
  rw [← ew] at hP hD
  rw [dc.2]
  have w := kk (nAd ad sh.length z) H1 locs ls (hp.ext (by exact Nat.zero_lt_one) (by have : ([.inl ci] : Sh).length = 1 := rfl; omega) (nAd_old h9) (px_Rb_1 hp.1.2.2.2) hv2 hP hD hS)
  rw [List.map_cons, ← px_map_ok (nAd_old h9) hv] at w
  have er : px_v (nAd ad sh.length z) (.ref sh.length) = .ref z := by
    show Value.ref (nAd ad sh.length z sh.length) = _
    rw [show nAd ad sh.length z sh.length = z from if_pos rfl]
  rw [er] at w
  exact w
/-- a sheet into the array of sheets -/
theorem pw_astq {a N j z : Nat} {x : Int32} (h : PXok X own cc d kc ks) (dc : Dc cc pc .aastore 1 q) (hs : sh[a]? = some (.inr (.object RX6, N))) (hz : sh[z]? = some (.inl 6)) (hx : px_ix x N j) (kk : PW X q lv st sh I L (u2 R a j (some z)) k n) : PW X pc lv (.ref z :: .int x :: .ref a :: st) sh I L R k n := by
  intro ad H locs ls hp
  have hzl : z < sh.length := (List.getElem?_eq_some_iff.mp hz).1
  have ha := px_get (cA := xA X) (ad := ad) (I := I) (L := L) (R := R) hs
  have hv := px_get (cA := xA X) (ad := ad) (I := I) (L := L) (R := R) hz
  refine va_astq (r := (RX6, TX6, 4)) h.1 h.2.1 h.2.2.2.2.1.1 hp.2.1 hp.2.2.1 hp.2.2.2.1 a 3 z 6 ha rfl hv rfl hx.1 dc.1 (fun H1 locs1 hP hD hS => ?_)
  rw [dc.2]
  rw [hx.2] at hP hD
  have e := px_set (cA := xA X) (ad := ad) (I := I) (L := L) (R := R) (I' := I) (L' := L) (R' := u2 R a j (some z)) (e := Sum.inl (xA X (.object RX6), N, Sum.inr (Sum.inr (Sum.inr (Sum.inr (va_up (fun j => (R a j).map ad) j (some (ad z)))))))) hs (by
    show _ = Sum.inl (xA X (.object RX6), N, Sum.inr (Sum.inr (Sum.inr (Sum.inr (fun i => (u2 R a j (some z) a i).map ad)))))
    congr 7
    funext i
    unfold va_up u2
    by_cases c : i = j
    · rw [if_pos c, if_pos ⟨rfl, c⟩]; rfl
    · rw [if_neg c, if_neg (fun q => c q.2)]) (fun _ _ => rfl) (fun _ _ => rfl) (fun b hb => funext fun _ => u2_n1 hb)
  rw [e] at hP hD
  exact kk ad H1 locs1 ls ⟨⟨hp.1.1, hp.1.2.1, hp.1.2.2.1, px_Rb_put hzl hp.1.2.2.2⟩, hP, hD, hS, hp.2.2.2.2⟩
/-- Object's own constructor -/
theorem pw_obj {ix i : Nat} (h : PXok X own cc d kc ks) (dc : Dc cc pc (.invokespecial ix) 3 q) (hl : Cond.methodLink own ix objectInit ∈ TW) (hd : 1 ≤ d) (hcat : (st.map fun v => v.category).sum ≤ 8) (kk : PW X q lv st sh I L R k n) : PW X pc lv (.ref i :: st) sh I L R k n := by
  refine PW.step (fun ad H locs ls hp w => ?_) kk
  refine W.objInit h.1 h.2.1 h.2.2.2.1 (h.2.2.1 _ hl) (h.2.2.1 _ im_objectInit) (h.2.2.1 _ co_objectInit) rfl hp.2.2.2.2.1 rfl dc.1 (Nat.le_trans hd h.2.2.2.2.2.1) ?_ (by show xW X H locs k n (F0 (xm X) (pc + 3) ls _); rw [dc.2]; exact w)
  have e : (F0 (xm X) pc ls (st.map (px_v ad))).monitorRoom = 0 := rfl
  have e2 := px_catsum ad st
  have h36 := h.2.2.2.2.2.2.1
  show 2 * 0 + ((st.map (px_v ad)).map fun v => v.category).sum + 12 ≤ (xR X).locals
  omega
end PXN
