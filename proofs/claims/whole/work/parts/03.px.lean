/-! THE PURE LAYER: memory as three functions (ints, longs, references) of a cell's number and a slot, cells' kinds as a list;
    PW is the kit's W over such a memory, wherever the cells lie. What follows is written in these words alone. -/
abbrev Kd : Type := Nat ⊕ (FieldType × Nat)
abbrev Sh : Type := List Kd
abbrev IM : Type := Nat → Nat → Int32
abbrev LM : Type := Nat → Nat → Int64
abbrev RM : Type := Nat → Nat → Option Nat
def px_n (ci : Nat) : Nat := match ci with
  | 0 => 17 | 1 => 2 | 2 => 7 | 3 => 15 | 4 => 6 | 5 => 5 | 6 => 4 | 7 => 17 | _ => 44
def px_C (ci : Nat) : String := match ci with
  | 0 => RX0 | 1 => RX1 | 2 => RX2 | 3 => RX3 | 4 => RX4 | 5 => RX5 | 6 => RX6 | 7 => RX7 | _ => RX8
def px_T (ci : Nat) : u_T := match ci with
  | 0 => TX0 | 1 => TX1 | 2 => TX2 | 3 => TX3 | 4 => TX4 | 5 => TX5 | 6 => TX6 | 7 => TX7 | _ => TX8
def px_ty (ci : Nat) : Nat → FieldType := match ci with
  | 0 => tyX0 | 1 => tyX1 | 2 => tyX2 | 3 => tyX3 | 4 => tyX4 | 5 => tyX5 | 6 => tyX6 | 7 => tyX7 | _ => tyX8
theorem px_cl {ci : Nat} (h : ci < 9) : vwCl[ci]? = some (px_C ci, px_T ci, px_n ci) := by
  match ci, h with
  | 0, _ => rfl
  | 1, _ => rfl
  | 2, _ => rfl
  | 3, _ => rfl
  | 4, _ => rfl
  | 5, _ => rfl
  | 6, _ => rfl
  | 7, _ => rfl
  | 8, _ => rfl
theorem px_in {ci : Nat} (h : ci < 9) : ∀ w ∈ u_ws (px_C ci) (px_T ci) (px_n ci), w ∈ TW := by
  match ci, h with
  | 0, _ => exact inlX0
  | 1, _ => exact inlX1
  | 2, _ => exact inlX2
  | 3, _ => exact inlX3
  | 4, _ => exact inlX4
  | 5, _ => exact inlX5
  | 6, _ => exact inlX6
  | 7, _ => exact inlX7
  | 8, _ => exact inlX8
theorem px_tyok {ci : Nat} (h : ci < 9) : ∀ k, k < px_n ci → parseFieldDescriptor (px_T ci k).2.2.1 = some (px_ty ci k) := by
  match ci, h with
  | 0, _ => exact tyX0_ok
  | 1, _ => exact tyX1_ok
  | 2, _ => exact tyX2_ok
  | 3, _ => exact tyX3_ok
  | 4, _ => exact tyX4_ok
  | 5, _ => exact tyX5_ok
  | 6, _ => exact tyX6_ok
  | 7, _ => exact tyX7_ok
  | 8, _ => exact tyX8_ok
theorem px_nm {ci : Nat} (h : ci < 9) : ∀ a, a < px_n ci → ∀ b, b < px_n ci → a ≠ b → (px_T ci a).2.1 ≠ (px_T ci b).2.1 := by
  match ci, h with
  | 0, _ => exact nmX0
  | 1, _ => exact nmX1
  | 2, _ => exact nmX2
  | 3, _ => exact nmX3
  | 4, _ => exact nmX4
  | 5, _ => exact nmX5
  | 6, _ => exact nmX6
  | 7, _ => exact nmX7
  | 8, _ => exact nmX8
/-- 0: kept as an int; 1: a long; 2: a reference -/
def px_k (ty : FieldType) : Nat := match ty with
  | .long => 1
  | .object _ => 2
  | .array _ => 2
  | _ => 0
def px_fld (ad : Nat → Nat) (I : IM) (L : LM) (R : RM) (i k : Nat) (ty : FieldType) : Value := match px_k ty with
  | 0 => .int (I i k)
  | 1 => .long (L i k)
  | _ => va_rf ((R i k).map ad)
def px_arr (ad : Nat → Nat) (I : IM) (L : LM) (R : RM) (i n : Nat) (ty : FieldType) : vp_A := match px_k ty with
  | 0 => (n, .inl (I i))
  | 1 => (n, .inr (.inl (L i)))
  | _ => (n, .inr (.inr (.inr (.inr (fun j => (R i j).map ad)))))
def px_fs (ad : Nat → Nat) (I : IM) (L : LM) (R : RM) (i ci : Nat) : List Value := (List.range (px_n ci)).map (fun k => px_fld ad I L R i k (px_ty ci k))
def px_ent (cA : FieldType → ClassId) (ad : Nat → Nat) (I : IM) (L : LM) (R : RM) (i : Nat) (k : Kd) : va_E := match k with
  | .inl ci => .inr (ci, px_fs ad I L R i ci)
  | .inr a => .inl (cA a.1, px_arr ad I L R i a.2 a.1)
def px_w (cA : FieldType → ClassId) (ad : Nat → Nat) (sh : Sh) (I : IM) (L : LM) (R : RM) : va_W := (List.range sh.length).map (fun i => (ad i, px_ent cA ad I L R i (sh.getD i (.inl 0))))
def px_v (ad : Nat → Nat) (v : Value) : Value := match v with
  | .ref i => .ref (ad i)
  | w => w
def px_l (ad : Nat → Nat) (lv : List (Nat × Value)) : List (Nat × Value) := lv.map (fun q => (q.1, px_v ad q.2))
def px_Rb (sh : Sh) (R : RM) : Prop := ∀ i k j, i < sh.length → R i k = some j → j < sh.length
def u2 {α : Type} (f : Nat → Nat → α) (c k : Nat) (v : α) : Nat → Nat → α := fun a b => if a = c ∧ b = k then v else f a b
def u1 {α : Type} (f : Nat → Nat → α) (c : Nat) (g : Nat → α) : Nat → Nat → α := fun a b => if a = c then g b else f a b
theorem u2_s {α : Type} {f : Nat → Nat → α} {c k : Nat} {v : α} : u2 f c k v c k = v := by simp [u2]
theorem u2_n1 {α : Type} {f : Nat → Nat → α} {c k a b : Nat} {v : α} (h : a ≠ c) : u2 f c k v a b = f a b := by simp [u2, h]
theorem u2_n2 {α : Type} {f : Nat → Nat → α} {c k a b : Nat} {v : α} (h : b ≠ k) : u2 f c k v a b = f a b := by simp [u2, h]
theorem px_wl {cA : FieldType → ClassId} {ad : Nat → Nat} {sh : Sh} {I : IM} {L : LM} {R : RM} : (px_w cA ad sh I L R).length = sh.length := by simp [px_w]
theorem px_get {cA : FieldType → ClassId} {ad : Nat → Nat} {sh : Sh} {I : IM} {L : LM} {R : RM} {i : Nat} {k : Kd} (h : sh[i]? = some k) : (px_w cA ad sh I L R)[i]? = some (ad i, px_ent cA ad I L R i k) := by
  have hi : i < sh.length := (List.getElem?_eq_some_iff.mp h).1
  simp [px_w, List.getElem?_map, List.getElem?_range hi, List.getD_eq_getElem?_getD, h]
theorem px_set {cA : FieldType → ClassId} {ad : Nat → Nat} {sh : Sh} {I I' : IM} {L L' : LM} {R R' : RM} {i : Nat} {k : Kd} {e : va_E} (h : sh[i]? = some k) (he : e = px_ent cA ad I' L' R' i k)
    (h1 : ∀ j, j ≠ i → I' j = I j) (h2 : ∀ j, j ≠ i → L' j = L j) (h3 : ∀ j, j ≠ i → R' j = R j) : (px_w cA ad sh I L R).set i (ad i, e) = px_w cA ad sh I' L' R' := by
  subst he
  apply List.ext_getElem?
  intro j
  have hi : i < sh.length := (List.getElem?_eq_some_iff.mp h).1
  by_cases hj : j < sh.length
  · have hk : sh[j]? = some sh[j] := List.getElem?_eq_getElem hj
    rw [px_get hk]
    by_cases e : j = i
    · subst e
      rw [List.getElem?_set_self (by rw [px_wl]; exact hi)]
      rw [h] at hk
      cases hk
      rfl
    · rw [List.getElem?_set_ne (fun q => e q.symm), px_get hk]
      congr 2
      unfold px_ent
      cases sh[j] with
      | inl ci => simp only [px_fs, px_fld, h1 j e, h2 j e, h3 j e]
      | inr a => simp only [px_arr, h1 j e, h2 j e, h3 j e]
  · rw [List.getElem?_eq_none (by simp [px_wl]; omega), List.getElem?_eq_none (by simp [px_wl]; omega)]
theorem px_fs_get {ad : Nat → Nat} {I : IM} {L : LM} {R : RM} {i ci k : Nat} (h : k < px_n ci) : (px_fs ad I L R i ci)[k]? = some (px_fld ad I L R i k (px_ty ci k)) := by
  simp [px_fs, List.getElem?_map, List.getElem?_range h]
theorem px_fs_len {ad : Nat → Nat} {I : IM} {L : LM} {R : RM} {i ci : Nat} : (px_fs ad I L R i ci).length = px_n ci := by simp [px_fs]
theorem px_fs_set {ad : Nat → Nat} {I I' : IM} {L L' : LM} {R R' : RM} {i ci k : Nat} {v : Value} (h : k < px_n ci) (hv : v = px_fld ad I' L' R' i k (px_ty ci k))
    (h1 : ∀ j, j ≠ k → I' i j = I i j) (h2 : ∀ j, j ≠ k → L' i j = L i j) (h3 : ∀ j, j ≠ k → R' i j = R i j) : (px_fs ad I L R i ci).set k v = px_fs ad I' L' R' i ci := by
  subst hv
  apply List.ext_getElem?
  intro j
  by_cases hj : j < px_n ci
  · rw [px_fs_get hj]
    by_cases e : j = k
    · subst e
      rw [List.getElem?_set_self (by rw [px_fs_len]; exact hj)]
    · rw [List.getElem?_set_ne (fun q => e q.symm), px_fs_get hj]
      simp only [px_fld, h1 j e, h2 j e, h3 j e]
  · rw [List.getElem?_eq_none (by simp [px_fs_len]; omega), List.getElem?_eq_none (by simp [px_fs_len]; omega)]
theorem px_v_cat {ad : Nat → Nat} {v : Value} : (px_v ad v).category = v.category := by cases v <;> rfl
theorem px_l_filter {ad : Nat → Nat} (f : Nat → Nat → Bool) : ∀ lv : List (Nat × Value), (px_l ad lv).filter (fun q => f q.1 q.2.category) = px_l ad (lv.filter (fun q => f q.1 q.2.category))
  | [] => rfl
  | q :: lv => by
    have ih := px_l_filter (ad := ad) f lv
    unfold px_l at ih ⊢
    simp only [List.map_cons, List.filter_cons, px_v_cat]
    split
    · rw [List.map_cons, ih]
    · exact ih
theorem px_at {ad : Nat → Nat} {ls : Array Slot} {nL : Nat} {lv : List (Nat × Value)} (h : lv_has ls nL (px_l ad lv)) (j : Nat) {i : Nat} {v : Value} (hj : lv[j]? = some (i, v)) : ls[i]? = some (.val (px_v ad v)) :=
  lv_at h j (by unfold px_l; rw [List.getElem?_map, hj]; rfl)
def px_tys (cA : FieldType → ClassId) : List (ClassId × FieldType) := [(cA .int, .int), (cA .long, .long), (cA .byte, .byte), (cA (.object RX6), .object RX6), (cA (.array .int), .array .int)]
/-- the links to private members of nest mates -/
def px_nw : List (String × Nat × MethodName × String) := [(RX0, 95, yX7_cut, "ShaftLine"), (RX1, 16, yX7_commonDivisor, "ShaftLine"), (RX1, 22, yX7_cut, "ShaftLine"), (RX2, 61, yX7_cut, "ShaftLine"), (RX4, 11, yX2_init, "ShaftLine"), (RX5, 11, yX0_init, "ShaftLine"), (RX7, 11, yX2_init, "ShaftLine"), (RX7, 31, yX4_init, "ShaftLine"), (RX7, 44, yX0_init, "ShaftLine"), (RX7, 54, yX5_init, "ShaftLine"), (RX7, 74, yX3_init, "ShaftLine"), (RX7, 84, yX1_init, "ShaftLine"), (RX7, 92, yX6_init, "ShaftLine")]
def pxK (D : va_G) (cA : FieldType → ClassId) (U : State) : Prop := va_K D vwCl (px_tys cA) U ∧ (∀ q ∈ px_nw, va_Nw (.methodLinkNest q.1 q.2.1 q.2.2.1 q.2.2.2) U) ∧ va_AO RX6 U ∧ va_AOA .int U
theorem pxK_same {D : va_G} {cA : FieldType → ClassId} {u U : State} (h : u.vm = U.vm) (hK : pxK D cA u) : pxK D cA U :=
  ⟨va_K.moved (by rw [h]; exact Vm.Alike.refl _) hK.1, fun q hq => va_Nw.same rfl h (hK.2.1 q hq), va_AO.moved (by rw [h]; exact Vm.Alike.refl _) hK.2.2.1, va_AOA.moved (by rw [h]; exact Vm.Alike.refl _) hK.2.2.2⟩
theorem pxK_warm {D : va_G} {cA : FieldType → ClassId} {s U : State} (hW : s.WarmedH U.vm) (hK : pxK D cA s) : pxK D cA U :=
  ⟨va_K.moved hW.alike hK.1, fun q hq => va_Nw.warmM hW (hK.2.1 q hq), va_AO.moved hW.alike hK.2.2.1, va_AOA.moved hW.alike hK.2.2.2⟩
def px_A (ad0 : Nat → Nat) (n0 sz : Nat) : Nat → Prop := fun q => (∃ i, i < n0 ∧ q = ad0 i) ∨ sz ≤ q
/-- what a method is walked in: program, launch, environment, room; start, method, arguments, frames below; method, code; class numbers; the cells at its start; its end -/
abbrev PX : Type := (Program × Launch × Env × Room) × (State × MethodId × Array Value × List Frame) × (Method × Code) × (va_G × (FieldType → ClassId)) × ((Nat → Nat) × Nat) × (State → Prop)
abbrev xp (X : PX) : Program := X.1.1
abbrev xl (X : PX) : Launch := X.1.2.1
abbrev xe (X : PX) : Env := X.1.2.2.1
abbrev xR (X : PX) : Room := X.1.2.2.2
abbrev xs (X : PX) : State := X.2.1.1
abbrev xm (X : PX) : MethodId := X.2.1.2.1
abbrev xa (X : PX) : Array Value := X.2.1.2.2.1
abbrev xb (X : PX) : List Frame := X.2.1.2.2.2
abbrev xM (X : PX) : Method := X.2.2.1.1
abbrev xc (X : PX) : Code := X.2.2.1.2
abbrev xD (X : PX) : va_G := X.2.2.2.1.1
abbrev xA (X : PX) : FieldType → ClassId := X.2.2.2.1.2
abbrev xad (X : PX) : Nat → Nat := X.2.2.2.2.1.1
abbrev xn (X : PX) : Nat := X.2.2.2.2.1.2
abbrev xQ (X : PX) : State → Prop := X.2.2.2.2.2
abbrev xW (X : PX) (H : Heap) (locs : List Loc) (k n : Nat) (g : JFrame) : Prop := W (xp X) (xl X) (xe X) (xR X) (xs X) (xm X) (xa X) (xb X) (xM X) (xc X) H locs k n (xQ X) g
def PH (X : PX) (sh : Sh) (I : IM) (L : LM) (R : RM) (lv : List (Nat × Value)) (ad : Nat → Nat) (H : Heap) (locs : List Loc) (ls : Array Slot) : Prop :=
  ((∀ i, (i < xn X ∨ 999 ≤ i) → ad i = xad X i) ∧ xn X ≤ sh.length ∧ (sh.length = xn X → ad = xad X) ∧ px_Rb sh R) ∧
  va_P (xD X) vwCl (px_w (xA X) ad sh I L R) H ∧ va_D (px_A (xad X) (xn X) (xs X).heap.size) (px_w (xA X) ad sh I L R) ∧ va_S (px_A (xad X) (xn X) (xs X).heap.size) (xs X).heap H locs ∧
  lv_has ls (xc X).maxLocals (px_l ad lv)
def PW (X : PX) (pc : Nat) (lv : List (Nat × Value)) (st : List Value) (sh : Sh) (I : IM) (L : LM) (R : RM) (k n : Nat) : Prop :=
  ∀ (ad : Nat → Nat) (H : Heap) (locs : List Loc) (ls : Array Slot), PH X sh I L R lv ad H locs ls → xW X H locs k n (F0 (xm X) pc ls (st.map (px_v ad)))
/-- a walk's facts: class, code, level of room, cells and slots that may be made -/
def PXok (X : PX) (own : String) (cc : ByteArray) (d kc ks : Nat) : Prop :=
  (xp X).tables.exec = Jvm.exec ∧ (xc X).code = cc ∧ (∀ w ∈ TW, w.before (xa X) (xs X) = true) ∧ (xs X).vm.findClass own = some (xm X).cls ∧ pxK (xD X) (xA X) (xs X) ∧ d ≤ (xR X).frames ∧ 36 * d ≤ (xR X).locals ∧ kc ≤ (xR X).cells ∧ ks ≤ (xR X).slots
def Dc (cc : ByteArray) (pc : Nat) (i : Instr) (len q : Nat) : Prop := decode cc pc = .ok (i, len) ∧ pc + len = q
section PXS
variable {X : PX} {own : String} {cc : ByteArray} {d kc ks pc q : Nat} {lv lv' : List (Nat × Value)} {st st' : List Value} {sh : Sh} {I : IM} {L : LM} {R : RM} {k n : Nat}
theorem PW.step (hs : ∀ (ad : Nat → Nat) (H : Heap) (locs : List Loc) (ls : Array Slot), PH X sh I L R lv ad H locs ls → xW X H locs k n (F0 (xm X) q ls (st'.map (px_v ad))) → xW X H locs k n (F0 (xm X) pc ls (st.map (px_v ad)))) (kk : PW X q lv st' sh I L R k n) : PW X pc lv st sh I L R k n :=
  fun ad H locs ls hp => hs ad H locs ls hp (kk ad H locs ls hp)
theorem PH.nl {ad : Nat → Nat} {H : Heap} {locs : List Loc} {ls : Array Slot} (h : PH X sh I L R lv ad H locs ls) {nl : List (Nat × Value)} {ls' : Array Slot} (h' : lv_has ls' (xc X).maxLocals (px_l ad nl)) : PH X sh I L R nl ad H locs ls' :=
  ⟨h.1, h.2.1, h.2.2.1, h.2.2.2.1, h'⟩
theorem pw_iadd {x y : Int32} (h : PXok X own cc d kc ks) (dc : Dc cc pc (.iadd) 1 q)  (kk : PW X q lv (.int (x + y) :: st) sh I L R k n) : PW X pc lv (.int y :: .int x :: st) sh I L R k n :=
  PW.step (fun ad H locs ls hp w => lv_iadd h.1 h.2.1 dc.1  (by rw [dc.2]; exact w)) kk
theorem pw_isub {x y : Int32} (h : PXok X own cc d kc ks) (dc : Dc cc pc (.isub) 1 q)  (kk : PW X q lv (.int (x - y) :: st) sh I L R k n) : PW X pc lv (.int y :: .int x :: st) sh I L R k n :=
  PW.step (fun ad H locs ls hp w => lv_isub h.1 h.2.1 dc.1  (by rw [dc.2]; exact w)) kk
theorem pw_imul {x y : Int32} (h : PXok X own cc d kc ks) (dc : Dc cc pc (.imul) 1 q)  (kk : PW X q lv (.int (x * y) :: st) sh I L R k n) : PW X pc lv (.int y :: .int x :: st) sh I L R k n :=
  PW.step (fun ad H locs ls hp w => lv_imul h.1 h.2.1 dc.1  (by rw [dc.2]; exact w)) kk
theorem pw_iand {x y : Int32} (h : PXok X own cc d kc ks) (dc : Dc cc pc (.iand) 1 q)  (kk : PW X q lv (.int (x &&& y) :: st) sh I L R k n) : PW X pc lv (.int y :: .int x :: st) sh I L R k n :=
  PW.step (fun ad H locs ls hp w => lv_iand h.1 h.2.1 dc.1  (by rw [dc.2]; exact w)) kk
theorem pw_ior {x y : Int32} (h : PXok X own cc d kc ks) (dc : Dc cc pc (.ior) 1 q)  (kk : PW X q lv (.int (x ||| y) :: st) sh I L R k n) : PW X pc lv (.int y :: .int x :: st) sh I L R k n :=
  PW.step (fun ad H locs ls hp w => lv_ior h.1 h.2.1 dc.1  (by rw [dc.2]; exact w)) kk
theorem pw_ishl {x y : Int32} (h : PXok X own cc d kc ks) (dc : Dc cc pc (.ishl) 1 q)  (kk : PW X q lv (.int (x <<< (y &&& 31)) :: st) sh I L R k n) : PW X pc lv (.int y :: .int x :: st) sh I L R k n :=
  PW.step (fun ad H locs ls hp w => lv_ishl h.1 h.2.1 dc.1  (by rw [dc.2]; exact w)) kk
theorem pw_ishr {x y : Int32} (h : PXok X own cc d kc ks) (dc : Dc cc pc (.ishr) 1 q)  (kk : PW X q lv (.int (x >>> (y &&& 31)) :: st) sh I L R k n) : PW X pc lv (.int y :: .int x :: st) sh I L R k n :=
  PW.step (fun ad H locs ls hp w => lv_ishr h.1 h.2.1 dc.1  (by rw [dc.2]; exact w)) kk
theorem pw_idiv {x y : Int32} (h : PXok X own cc d kc ks) (dc : Dc cc pc (.idiv) 1 q) (hne : ¬ y = 0) (kk : PW X q lv (.int (x / y) :: st) sh I L R k n) : PW X pc lv (.int y :: .int x :: st) sh I L R k n :=
  PW.step (fun ad H locs ls hp w => lv_idiv h.1 h.2.1 dc.1 hne (by rw [dc.2]; exact w)) kk
theorem pw_irem {x y : Int32} (h : PXok X own cc d kc ks) (dc : Dc cc pc (.irem) 1 q) (hne : ¬ y = 0) (kk : PW X q lv (.int (x - x / y * y) :: st) sh I L R k n) : PW X pc lv (.int y :: .int x :: st) sh I L R k n :=
  PW.step (fun ad H locs ls hp w => lv_irem h.1 h.2.1 dc.1 hne (by rw [dc.2]; exact w)) kk
theorem pw_ineg {x : Int32} (h : PXok X own cc d kc ks) (dc : Dc cc pc (.ineg) 1 q)  (kk : PW X q lv (.int (-x) :: st) sh I L R k n) : PW X pc lv (.int x :: st) sh I L R k n :=
  PW.step (fun ad H locs ls hp w => lv_ineg h.1 h.2.1 dc.1  (by rw [dc.2]; exact w)) kk
theorem pw_ladd {x y : Int64} (h : PXok X own cc d kc ks) (dc : Dc cc pc (.ladd) 1 q)  (kk : PW X q lv (.long (x + y) :: st) sh I L R k n) : PW X pc lv (.long y :: .long x :: st) sh I L R k n :=
  PW.step (fun ad H locs ls hp w => lv_ladd h.1 h.2.1 dc.1  (by rw [dc.2]; exact w)) kk
theorem pw_lsub {x y : Int64} (h : PXok X own cc d kc ks) (dc : Dc cc pc (.lsub) 1 q)  (kk : PW X q lv (.long (x - y) :: st) sh I L R k n) : PW X pc lv (.long y :: .long x :: st) sh I L R k n :=
  PW.step (fun ad H locs ls hp w => lv_lsub h.1 h.2.1 dc.1  (by rw [dc.2]; exact w)) kk
theorem pw_lmul {x y : Int64} (h : PXok X own cc d kc ks) (dc : Dc cc pc (.lmul) 1 q)  (kk : PW X q lv (.long (x * y) :: st) sh I L R k n) : PW X pc lv (.long y :: .long x :: st) sh I L R k n :=
  PW.step (fun ad H locs ls hp w => lv_lmul h.1 h.2.1 dc.1  (by rw [dc.2]; exact w)) kk
theorem pw_land {x y : Int64} (h : PXok X own cc d kc ks) (dc : Dc cc pc (.land) 1 q)  (kk : PW X q lv (.long (x &&& y) :: st) sh I L R k n) : PW X pc lv (.long y :: .long x :: st) sh I L R k n :=
  PW.step (fun ad H locs ls hp w => lv_land h.1 h.2.1 dc.1  (by rw [dc.2]; exact w)) kk
theorem pw_lor {x y : Int64} (h : PXok X own cc d kc ks) (dc : Dc cc pc (.lor) 1 q)  (kk : PW X q lv (.long (x ||| y) :: st) sh I L R k n) : PW X pc lv (.long y :: .long x :: st) sh I L R k n :=
  PW.step (fun ad H locs ls hp w => lv_lor h.1 h.2.1 dc.1  (by rw [dc.2]; exact w)) kk
theorem pw_ldiv {x y : Int64} (h : PXok X own cc d kc ks) (dc : Dc cc pc (.ldiv) 1 q) (hne : ¬ y = 0) (kk : PW X q lv (.long (x / y) :: st) sh I L R k n) : PW X pc lv (.long y :: .long x :: st) sh I L R k n :=
  PW.step (fun ad H locs ls hp w => lv_ldiv h.1 h.2.1 dc.1 hne (by rw [dc.2]; exact w)) kk
theorem pw_lrem {x y : Int64} (h : PXok X own cc d kc ks) (dc : Dc cc pc (.lrem) 1 q) (hne : ¬ y = 0) (kk : PW X q lv (.long (x - x / y * y) :: st) sh I L R k n) : PW X pc lv (.long y :: .long x :: st) sh I L R k n :=
  PW.step (fun ad H locs ls hp w => lv_lrem h.1 h.2.1 dc.1 hne (by rw [dc.2]; exact w)) kk
theorem pw_lneg {x : Int64} (h : PXok X own cc d kc ks) (dc : Dc cc pc (.lneg) 1 q)  (kk : PW X q lv (.long (-x) :: st) sh I L R k n) : PW X pc lv (.long x :: st) sh I L R k n :=
  PW.step (fun ad H locs ls hp w => lv_lneg h.1 h.2.1 dc.1  (by rw [dc.2]; exact w)) kk
theorem pw_lshl {x : Int64} {y : Int32} (h : PXok X own cc d kc ks) (dc : Dc cc pc (.lshl) 1 q)  (kk : PW X q lv (.long (x <<< (y.toInt64 &&& 63)) :: st) sh I L R k n) : PW X pc lv (.int y :: .long x :: st) sh I L R k n :=
  PW.step (fun ad H locs ls hp w => lv_lshl h.1 h.2.1 dc.1 rfl (by rw [dc.2]; exact w)) kk
theorem pw_lshr {x : Int64} {y : Int32} (h : PXok X own cc d kc ks) (dc : Dc cc pc (.lshr) 1 q)  (kk : PW X q lv (.long (x >>> (y.toInt64 &&& 63)) :: st) sh I L R k n) : PW X pc lv (.int y :: .long x :: st) sh I L R k n :=
  PW.step (fun ad H locs ls hp w => lv_lshr h.1 h.2.1 dc.1 rfl (by rw [dc.2]; exact w)) kk
theorem pw_iushr {x y : Int32} (h : PXok X own cc d kc ks) (dc : Dc cc pc (.iushr) 1 q)  (kk : PW X q lv (.int ((x.toUInt32 >>> (y.toUInt32 &&& Int32.toUInt32 31)).toInt32) :: st) sh I L R k n) : PW X pc lv (.int y :: .int x :: st) sh I L R k n :=
  PW.step (fun ad H locs ls hp w => lv_iushr h.1 h.2.1 dc.1 rfl (by rw [dc.2]; exact w)) kk
theorem pw_i2l {x : Int32} (h : PXok X own cc d kc ks) (dc : Dc cc pc (.i2l) 1 q)  (kk : PW X q lv (.long x.toInt64 :: st) sh I L R k n) : PW X pc lv (.int x :: st) sh I L R k n :=
  PW.step (fun ad H locs ls hp w => lv_i2l h.1 h.2.1 dc.1 rfl (by rw [dc.2]; exact w)) kk
theorem pw_l2i {x : Int64} (h : PXok X own cc d kc ks) (dc : Dc cc pc (.l2i) 1 q)  (kk : PW X q lv (.int x.toInt32 :: st) sh I L R k n) : PW X pc lv (.long x :: st) sh I L R k n :=
  PW.step (fun ad H locs ls hp w => lv_l2i h.1 h.2.1 dc.1 rfl (by rw [dc.2]; exact w)) kk
theorem pw_i2b {x : Int32} (h : PXok X own cc d kc ks) (dc : Dc cc pc (.i2b) 1 q)  (kk : PW X q lv (.int x.toInt8.toInt32 :: st) sh I L R k n) : PW X pc lv (.int x :: st) sh I L R k n :=
  PW.step (fun ad H locs ls hp w => lv_i2b h.1 h.2.1 dc.1 rfl (by rw [dc.2]; exact w)) kk
theorem pw_i2s {x : Int32} (h : PXok X own cc d kc ks) (dc : Dc cc pc (.i2s) 1 q)  (kk : PW X q lv (.int x.toInt16.toInt32 :: st) sh I L R k n) : PW X pc lv (.int x :: st) sh I L R k n :=
  PW.step (fun ad H locs ls hp w => lv_i2s h.1 h.2.1 dc.1 rfl (by rw [dc.2]; exact w)) kk
theorem pw_lcmp {x y : Int64} (h : PXok X own cc d kc ks) (dc : Dc cc pc (.lcmp) 1 q)  (kk : PW X q lv (.int (lg_cmp x y) :: st) sh I L R k n) : PW X pc lv (.long y :: .long x :: st) sh I L R k n :=
  PW.step (fun ad H locs ls hp w => W.lcmp h.1 h.2.1 dc.1  (by rw [dc.2]; exact w)) kk
theorem pw_iconst {z : Int} {x : Int32} (h : PXok X own cc d kc ks) (dc : Dc cc pc (.iconst z) 1 q) (hv : Int32.ofInt z = x) (kk : PW X q lv (.int x :: st) sh I L R k n) : PW X pc lv (st) sh I L R k n :=
  PW.step (fun ad H locs ls hp w => lv_iconst h.1 h.2.1 dc.1 hv (by rw [dc.2]; exact w)) kk
theorem pw_bipush {z : Int} {x : Int32} (h : PXok X own cc d kc ks) (dc : Dc cc pc (.bipush z) 2 q) (hv : (Int8.ofInt z).toInt32 = x) (kk : PW X q lv (.int x :: st) sh I L R k n) : PW X pc lv (st) sh I L R k n :=
  PW.step (fun ad H locs ls hp w => lv_bipush h.1 h.2.1 dc.1 hv (by rw [dc.2]; exact w)) kk
theorem pw_sipush {z : Int} {x : Int32} (h : PXok X own cc d kc ks) (dc : Dc cc pc (.sipush z) 3 q) (hv : (Int16.ofInt z).toInt32 = x) (kk : PW X q lv (.int x :: st) sh I L R k n) : PW X pc lv (st) sh I L R k n :=
  PW.step (fun ad H locs ls hp w => lv_sipush h.1 h.2.1 dc.1 hv (by rw [dc.2]; exact w)) kk
theorem pw_lconst {z : Fin 2} {x : Int64} (h : PXok X own cc d kc ks) (dc : Dc cc pc (.lconst z) 1 q) (hv : Int64.ofNat (z : Nat) = x) (kk : PW X q lv (.long x :: st) sh I L R k n) : PW X pc lv (st) sh I L R k n :=
  PW.step (fun ad H locs ls hp w => lv_lconst h.1 h.2.1 dc.1 hv (by rw [dc.2]; exact w)) kk
theorem pw_null  (h : PXok X own cc d kc ks) (dc : Dc cc pc (.aconst_null) 1 q)  (kk : PW X q lv (.null :: st) sh I L R k n) : PW X pc lv (st) sh I L R k n :=
  PW.step (fun ad H locs ls hp w => lv_null h.1 h.2.1 dc.1  (by rw [dc.2]; exact w)) kk
theorem pw_dupI {x : Int32} (h : PXok X own cc d kc ks) (dc : Dc cc pc (.dup) 1 q)  (kk : PW X q lv (.int x :: .int x :: st) sh I L R k n) : PW X pc lv (.int x :: st) sh I L R k n :=
  PW.step (fun ad H locs ls hp w => lv_dup h.1 h.2.1 dc.1 rfl (by rw [dc.2]; exact w)) kk
theorem pw_dupR {i : Nat} (h : PXok X own cc d kc ks) (dc : Dc cc pc (.dup) 1 q)  (kk : PW X q lv (.ref i :: .ref i :: st) sh I L R k n) : PW X pc lv (.ref i :: st) sh I L R k n :=
  PW.step (fun ad H locs ls hp w => lv_dup h.1 h.2.1 dc.1 rfl (by rw [dc.2]; exact w)) kk
theorem pw_dup2L {x : Int64} (h : PXok X own cc d kc ks) (dc : Dc cc pc (.dup2) 1 q)  (kk : PW X q lv (.long x :: .long x :: st) sh I L R k n) : PW X pc lv (.long x :: st) sh I L R k n :=
  PW.step (fun ad H locs ls hp w => lv_dup2_2 h.1 h.2.1 dc.1 rfl (by rw [dc.2]; exact w)) kk
theorem pw_dup2RI {x : Int32} {i : Nat} (h : PXok X own cc d kc ks) (dc : Dc cc pc (.dup2) 1 q)  (kk : PW X q lv (.int x :: .ref i :: .int x :: .ref i :: st) sh I L R k n) : PW X pc lv (.int x :: .ref i :: st) sh I L R k n :=
  PW.step (fun ad H locs ls hp w => lv_dup2_11 h.1 h.2.1 dc.1 rfl rfl (by rw [dc.2]; exact w)) kk
theorem pw_popI {x : Int32} (h : PXok X own cc d kc ks) (dc : Dc cc pc (.pop) 1 q)  (kk : PW X q lv (st) sh I L R k n) : PW X pc lv (.int x :: st) sh I L R k n :=
  PW.step (fun ad H locs ls hp w => lv_pop h.1 h.2.1 dc.1 rfl (by rw [dc.2]; exact w)) kk
theorem pw_iload_n {x : Int32} {z : Fin 4} (h : PXok X own cc d kc ks) (j : Nat) (dc : Dc cc pc (.iload_n z) 1 q) (hj : lv[j]? = some ((z : Nat), .int x)) (kk : PW X q lv (.int x :: st) sh I L R k n) : PW X pc lv st sh I L R k n :=
  PW.step (fun ad H locs ls hp w => lv_iload_n h.1 h.2.1 dc.1 rfl (px_at hp.2.2.2.2 j hj) (by rw [dc.2]; exact w)) kk
theorem pw_iload {x : Int32} {i : Nat} (h : PXok X own cc d kc ks) (j : Nat) (dc : Dc cc pc (.iload i) 2 q) (hj : lv[j]? = some (i, .int x)) (kk : PW X q lv (.int x :: st) sh I L R k n) : PW X pc lv st sh I L R k n :=
  PW.step (fun ad H locs ls hp w => lv_iload h.1 h.2.1 dc.1 (px_at hp.2.2.2.2 j hj) (by rw [dc.2]; exact w)) kk
theorem pw_lload_n {x : Int64} {z : Fin 4} (h : PXok X own cc d kc ks) (j : Nat) (dc : Dc cc pc (.lload_n z) 1 q) (hj : lv[j]? = some ((z : Nat), .long x)) (kk : PW X q lv (.long x :: st) sh I L R k n) : PW X pc lv st sh I L R k n :=
  PW.step (fun ad H locs ls hp w => lv_lload_n h.1 h.2.1 dc.1 rfl (px_at hp.2.2.2.2 j hj) (by rw [dc.2]; exact w)) kk
theorem pw_lload {x : Int64} {i : Nat} (h : PXok X own cc d kc ks) (j : Nat) (dc : Dc cc pc (.lload i) 2 q) (hj : lv[j]? = some (i, .long x)) (kk : PW X q lv (.long x :: st) sh I L R k n) : PW X pc lv st sh I L R k n :=
  PW.step (fun ad H locs ls hp w => lv_lload h.1 h.2.1 dc.1 (px_at hp.2.2.2.2 j hj) (by rw [dc.2]; exact w)) kk
theorem pw_aload_n {x : Nat} {z : Fin 4} (h : PXok X own cc d kc ks) (j : Nat) (dc : Dc cc pc (.aload_n z) 1 q) (hj : lv[j]? = some ((z : Nat), .ref x)) (kk : PW X q lv (.ref x :: st) sh I L R k n) : PW X pc lv st sh I L R k n :=
  PW.step (fun ad H locs ls hp w => lv_aload_n h.1 h.2.1 dc.1 rfl (px_at hp.2.2.2.2 j hj) (by rw [dc.2]; exact w)) kk
theorem pw_aload {x : Nat} {i : Nat} (h : PXok X own cc d kc ks) (j : Nat) (dc : Dc cc pc (.aload i) 2 q) (hj : lv[j]? = some (i, .ref x)) (kk : PW X q lv (.ref x :: st) sh I L R k n) : PW X pc lv st sh I L R k n :=
  PW.step (fun ad H locs ls hp w => lv_aload h.1 h.2.1 dc.1 (px_at hp.2.2.2.2 j hj) (by rw [dc.2]; exact w)) kk
theorem pw_istore_n {x : Int32} {i : Nat} {z : Fin 4} (h : PXok X own cc d kc ks) (dc : Dc cc pc (.istore_n z) 1 q) (hz : (z : Nat) = i) (nL : Nat) (hn : (xc X).maxLocals = nL) (hi : i < nL) (hl : (i, Value.int x) :: lv.filter (fun q => !(q.1 == i) && !(q.1 + 1 == i && q.2.category == 2)) = lv') (kk : PW X q lv' st sh I L R k n) : PW X pc lv (.int x :: st) sh I L R k n := by
  intro ad H locs ls hp
  refine lv_istore_n (lv' := px_l ad lv') h.1 h.2.1 dc.1 hz hp.2.2.2.2 (by rw [hn]; exact hi) ?_ (fun ls' hl' => by rw [dc.2]; exact kk ad H locs ls' (hp.nl hl'))
  rw [← hl, px_l_filter (fun a b => !(a == i) && !(a + 1 == i && b == 2))]
  rfl
theorem pw_istore {x : Int32} {i : Nat} (h : PXok X own cc d kc ks) (dc : Dc cc pc (.istore i) 2 q)  (nL : Nat) (hn : (xc X).maxLocals = nL) (hi : i < nL) (hl : (i, Value.int x) :: lv.filter (fun q => !(q.1 == i) && !(q.1 + 1 == i && q.2.category == 2)) = lv') (kk : PW X q lv' st sh I L R k n) : PW X pc lv (.int x :: st) sh I L R k n := by
  intro ad H locs ls hp
  refine lv_istore (lv' := px_l ad lv') h.1 h.2.1 dc.1 hp.2.2.2.2 (by rw [hn]; exact hi) ?_ (fun ls' hl' => by rw [dc.2]; exact kk ad H locs ls' (hp.nl hl'))
  rw [← hl, px_l_filter (fun a b => !(a == i) && !(a + 1 == i && b == 2))]
  rfl
theorem pw_lstore_n {x : Int64} {i : Nat} {z : Fin 4} (h : PXok X own cc d kc ks) (dc : Dc cc pc (.lstore_n z) 1 q) (hz : (z : Nat) = i) (nL : Nat) (hn : (xc X).maxLocals = nL) (hi : i + 1 < nL) (hl : (i, Value.long x) :: lv.filter (fun q => !(q.1 == i) && (!(q.1 == i + 1) && !(q.1 + 1 == i && q.2.category == 2))) = lv') (kk : PW X q lv' st sh I L R k n) : PW X pc lv (.long x :: st) sh I L R k n := by
  intro ad H locs ls hp
  refine lv_lstore_n (lv' := px_l ad lv') h.1 h.2.1 dc.1 hz hp.2.2.2.2 (by rw [hn]; exact hi) ?_ (fun ls' hl' => by rw [dc.2]; exact kk ad H locs ls' (hp.nl hl'))
  rw [← hl, px_l_filter (fun a b => !(a == i) && (!(a == i + 1) && !(a + 1 == i && b == 2)))]
  rfl
theorem pw_lstore {x : Int64} {i : Nat} (h : PXok X own cc d kc ks) (dc : Dc cc pc (.lstore i) 2 q)  (nL : Nat) (hn : (xc X).maxLocals = nL) (hi : i + 1 < nL) (hl : (i, Value.long x) :: lv.filter (fun q => !(q.1 == i) && (!(q.1 == i + 1) && !(q.1 + 1 == i && q.2.category == 2))) = lv') (kk : PW X q lv' st sh I L R k n) : PW X pc lv (.long x :: st) sh I L R k n := by
  intro ad H locs ls hp
  refine lv_lstore (lv' := px_l ad lv') h.1 h.2.1 dc.1 hp.2.2.2.2 (by rw [hn]; exact hi) ?_ (fun ls' hl' => by rw [dc.2]; exact kk ad H locs ls' (hp.nl hl'))
  rw [← hl, px_l_filter (fun a b => !(a == i) && (!(a == i + 1) && !(a + 1 == i && b == 2)))]
  rfl
theorem pw_astore_n {x : Nat} {i : Nat} {z : Fin 4} (h : PXok X own cc d kc ks) (dc : Dc cc pc (.astore_n z) 1 q) (hz : (z : Nat) = i) (nL : Nat) (hn : (xc X).maxLocals = nL) (hi : i < nL) (hl : (i, Value.ref x) :: lv.filter (fun q => !(q.1 == i) && !(q.1 + 1 == i && q.2.category == 2)) = lv') (kk : PW X q lv' st sh I L R k n) : PW X pc lv (.ref x :: st) sh I L R k n := by
  intro ad H locs ls hp
  refine lv_astore_n (lv' := px_l ad lv') h.1 h.2.1 dc.1 hz hp.2.2.2.2 (by rw [hn]; exact hi) ?_ (fun ls' hl' => by rw [dc.2]; exact kk ad H locs ls' (hp.nl hl'))
  rw [← hl, px_l_filter (fun a b => !(a == i) && !(a + 1 == i && b == 2))]
  rfl
theorem pw_astore {x : Nat} {i : Nat} (h : PXok X own cc d kc ks) (dc : Dc cc pc (.astore i) 2 q)  (nL : Nat) (hn : (xc X).maxLocals = nL) (hi : i < nL) (hl : (i, Value.ref x) :: lv.filter (fun q => !(q.1 == i) && !(q.1 + 1 == i && q.2.category == 2)) = lv') (kk : PW X q lv' st sh I L R k n) : PW X pc lv (.ref x :: st) sh I L R k n := by
  intro ad H locs ls hp
  refine lv_astore (lv' := px_l ad lv') h.1 h.2.1 dc.1 hp.2.2.2.2 (by rw [hn]; exact hi) ?_ (fun ls' hl' => by rw [dc.2]; exact kk ad H locs ls' (hp.nl hl'))
  rw [← hl, px_l_filter (fun a b => !(a == i) && !(a + 1 == i && b == 2))]
  rfl
theorem pw_iinc {x : Int32} {i : Nat} {z : Int} (y : Int32) (h : PXok X own cc d kc ks) (dc : Dc cc pc (.iinc i z) 3 q) (j : Nat) (hj : lv[j]? = some (i, .int x)) (hy : x + Int32.ofInt z = y) (nL : Nat) (hn : (xc X).maxLocals = nL) (hi : i < nL) (hl : (i, Value.int y) :: lv.filter (fun q => !(q.1 == i) && !(q.1 + 1 == i && q.2.category == 2)) = lv') (kk : PW X q lv' st sh I L R k n) : PW X pc lv st sh I L R k n := by
  intro ad H locs ls hp
  refine lv_iinc (lv' := px_l ad lv') h.1 h.2.1 dc.1 hp.2.2.2.2 (k := j) (x := x) (v := y) ?_ hy (by rw [hn]; exact hi) ?_ (fun ls' hl' => by rw [dc.2]; exact kk ad H locs ls' (hp.nl hl'))
  · unfold px_l
    rw [List.getElem?_map, hj]
    rfl
  · rw [← hl, px_l_filter (fun a b => !(a == i) && !(a + 1 == i && b == 2))]
    rfl
theorem pw_icmp_eq {x y : Int32} {off : Int} (tgt : Nat) (h : PXok X own cc d kc ks) (dc : Dc cc pc (.if_icmp .eq off) 3 q) (ht : (pc : Int) + off = (tgt : Int)) (kt : x = y → PW X tgt lv st sh I L R k n) (kf : ¬ x = y → PW X q lv st sh I L R k n) : PW X pc lv (.int y :: .int x :: st) sh I L R k n :=
  fun ad H locs ls hp => lv_icmp_eq h.1 h.2.1 dc.1 ht (fun c => kt c ad H locs ls hp) (fun c => by rw [dc.2]; exact kf c ad H locs ls hp)
theorem pw_icmp_ne {x y : Int32} {off : Int} (tgt : Nat) (h : PXok X own cc d kc ks) (dc : Dc cc pc (.if_icmp .ne off) 3 q) (ht : (pc : Int) + off = (tgt : Int)) (kt : ¬ x = y → PW X tgt lv st sh I L R k n) (kf : x = y → PW X q lv st sh I L R k n) : PW X pc lv (.int y :: .int x :: st) sh I L R k n :=
  fun ad H locs ls hp => lv_icmp_ne h.1 h.2.1 dc.1 ht (fun c => kt c ad H locs ls hp) (fun c => by rw [dc.2]; exact kf c ad H locs ls hp)
theorem pw_icmp_lt {x y : Int32} {off : Int} (tgt : Nat) (h : PXok X own cc d kc ks) (dc : Dc cc pc (.if_icmp .lt off) 3 q) (ht : (pc : Int) + off = (tgt : Int)) (kt : x < y → PW X tgt lv st sh I L R k n) (kf : ¬ x < y → PW X q lv st sh I L R k n) : PW X pc lv (.int y :: .int x :: st) sh I L R k n :=
  fun ad H locs ls hp => lv_icmp_lt h.1 h.2.1 dc.1 ht (fun c => kt c ad H locs ls hp) (fun c => by rw [dc.2]; exact kf c ad H locs ls hp)
theorem pw_icmp_ge {x y : Int32} {off : Int} (tgt : Nat) (h : PXok X own cc d kc ks) (dc : Dc cc pc (.if_icmp .ge off) 3 q) (ht : (pc : Int) + off = (tgt : Int)) (kt : y ≤ x → PW X tgt lv st sh I L R k n) (kf : ¬ y ≤ x → PW X q lv st sh I L R k n) : PW X pc lv (.int y :: .int x :: st) sh I L R k n :=
  fun ad H locs ls hp => lv_icmp_ge h.1 h.2.1 dc.1 ht (fun c => kt c ad H locs ls hp) (fun c => by rw [dc.2]; exact kf c ad H locs ls hp)
theorem pw_icmp_gt {x y : Int32} {off : Int} (tgt : Nat) (h : PXok X own cc d kc ks) (dc : Dc cc pc (.if_icmp .gt off) 3 q) (ht : (pc : Int) + off = (tgt : Int)) (kt : y < x → PW X tgt lv st sh I L R k n) (kf : ¬ y < x → PW X q lv st sh I L R k n) : PW X pc lv (.int y :: .int x :: st) sh I L R k n :=
  fun ad H locs ls hp => lv_icmp_gt h.1 h.2.1 dc.1 ht (fun c => kt c ad H locs ls hp) (fun c => by rw [dc.2]; exact kf c ad H locs ls hp)
theorem pw_icmp_le {x y : Int32} {off : Int} (tgt : Nat) (h : PXok X own cc d kc ks) (dc : Dc cc pc (.if_icmp .le off) 3 q) (ht : (pc : Int) + off = (tgt : Int)) (kt : x ≤ y → PW X tgt lv st sh I L R k n) (kf : ¬ x ≤ y → PW X q lv st sh I L R k n) : PW X pc lv (.int y :: .int x :: st) sh I L R k n :=
  fun ad H locs ls hp => lv_icmp_le h.1 h.2.1 dc.1 ht (fun c => kt c ad H locs ls hp) (fun c => by rw [dc.2]; exact kf c ad H locs ls hp)
theorem pw_if_eq {x : Int32} {off : Int} (tgt : Nat) (h : PXok X own cc d kc ks) (dc : Dc cc pc (.ifCond .eq off) 3 q) (ht : (pc : Int) + off = (tgt : Int)) (kt : x = 0 → PW X tgt lv st sh I L R k n) (kf : ¬ x = 0 → PW X q lv st sh I L R k n) : PW X pc lv (.int x :: st) sh I L R k n :=
  fun ad H locs ls hp => lv_if_eq h.1 h.2.1 dc.1 ht (fun c => kt c ad H locs ls hp) (fun c => by rw [dc.2]; exact kf c ad H locs ls hp)
theorem pw_if_ne {x : Int32} {off : Int} (tgt : Nat) (h : PXok X own cc d kc ks) (dc : Dc cc pc (.ifCond .ne off) 3 q) (ht : (pc : Int) + off = (tgt : Int)) (kt : ¬ x = 0 → PW X tgt lv st sh I L R k n) (kf : x = 0 → PW X q lv st sh I L R k n) : PW X pc lv (.int x :: st) sh I L R k n :=
  fun ad H locs ls hp => lv_if_ne h.1 h.2.1 dc.1 ht (fun c => kt c ad H locs ls hp) (fun c => by rw [dc.2]; exact kf c ad H locs ls hp)
theorem pw_if_lt {x : Int32} {off : Int} (tgt : Nat) (h : PXok X own cc d kc ks) (dc : Dc cc pc (.ifCond .lt off) 3 q) (ht : (pc : Int) + off = (tgt : Int)) (kt : x < 0 → PW X tgt lv st sh I L R k n) (kf : ¬ x < 0 → PW X q lv st sh I L R k n) : PW X pc lv (.int x :: st) sh I L R k n :=
  fun ad H locs ls hp => lv_if_lt h.1 h.2.1 dc.1 ht (fun c => kt c ad H locs ls hp) (fun c => by rw [dc.2]; exact kf c ad H locs ls hp)
theorem pw_if_ge {x : Int32} {off : Int} (tgt : Nat) (h : PXok X own cc d kc ks) (dc : Dc cc pc (.ifCond .ge off) 3 q) (ht : (pc : Int) + off = (tgt : Int)) (kt : 0 ≤ x → PW X tgt lv st sh I L R k n) (kf : ¬ 0 ≤ x → PW X q lv st sh I L R k n) : PW X pc lv (.int x :: st) sh I L R k n :=
  fun ad H locs ls hp => lv_if_ge h.1 h.2.1 dc.1 ht (fun c => kt c ad H locs ls hp) (fun c => by rw [dc.2]; exact kf c ad H locs ls hp)
theorem pw_if_gt {x : Int32} {off : Int} (tgt : Nat) (h : PXok X own cc d kc ks) (dc : Dc cc pc (.ifCond .gt off) 3 q) (ht : (pc : Int) + off = (tgt : Int)) (kt : 0 < x → PW X tgt lv st sh I L R k n) (kf : ¬ 0 < x → PW X q lv st sh I L R k n) : PW X pc lv (.int x :: st) sh I L R k n :=
  fun ad H locs ls hp => lv_if_gt h.1 h.2.1 dc.1 ht (fun c => kt c ad H locs ls hp) (fun c => by rw [dc.2]; exact kf c ad H locs ls hp)
theorem pw_if_le {x : Int32} {off : Int} (tgt : Nat) (h : PXok X own cc d kc ks) (dc : Dc cc pc (.ifCond .le off) 3 q) (ht : (pc : Int) + off = (tgt : Int)) (kt : x ≤ 0 → PW X tgt lv st sh I L R k n) (kf : ¬ x ≤ 0 → PW X q lv st sh I L R k n) : PW X pc lv (.int x :: st) sh I L R k n :=
  fun ad H locs ls hp => lv_if_le h.1 h.2.1 dc.1 ht (fun c => kt c ad H locs ls hp) (fun c => by rw [dc.2]; exact kf c ad H locs ls hp)
theorem pw_goto {off : Int} (tgt : Nat) (h : PXok X own cc d kc ks) (dc : Dc cc pc (.goto off) 3 q) (ht : (pc : Int) + off = (tgt : Int)) (kk : PW X tgt lv st sh I L R k n) : PW X pc lv st sh I L R k n :=
  fun ad H locs ls hp => lv_goto h.1 h.2.1 dc.1 ht (kk ad H locs ls hp)
theorem pw_ifnull {i : Nat} {off : Int} (h : PXok X own cc d kc ks) (dc : Dc cc pc (.ifnull off) 3 q) (kk : PW X q lv st sh I L R k n) : PW X pc lv (.ref i :: st) sh I L R k n :=
  PW.step (fun ad H locs ls hp w => lv_ifnull h.1 h.2.1 dc.1 (by rw [dc.2]; exact w)) kk
theorem pw_ifnullN {off : Int} (tgt : Nat) (h : PXok X own cc d kc ks) (dc : Dc cc pc (.ifnull off) 3 q) (ht : (pc : Int) + off = (tgt : Int)) (kk : PW X tgt lv st sh I L R k n) : PW X pc lv (.null :: st) sh I L R k n :=
  fun ad H locs ls hp => lv_ifnullN h.1 h.2.1 dc.1 ht (kk ad H locs ls hp)
theorem pw_tableIn {dflt lo hi : Int} {offs : Array Int} {ln : Nat} {x : Int32} {off : Int} (tgt : Nat) (h : PXok X own cc d kc ks) (dc : Dc cc pc (.tableswitch dflt lo hi offs) ln q) (h1 : ¬ x.toInt < lo) (h2 : ¬ hi < x.toInt) (ho : offs[(x.toInt - lo).toNat]? = some off) (ht : (pc : Int) + off = (tgt : Int)) (kk : PW X tgt lv st sh I L R k n) : PW X pc lv (.int x :: st) sh I L R k n :=
  fun ad H locs ls hp => lv_tableIn h.1 h.2.1 dc.1 h1 h2 ho ht (kk ad H locs ls hp)
theorem pw_tableOut {dflt lo hi : Int} {offs : Array Int} {ln : Nat} {x : Int32} (tgt : Nat) (h : PXok X own cc d kc ks) (dc : Dc cc pc (.tableswitch dflt lo hi offs) ln q) (h1 : x.toInt < lo ∨ hi < x.toInt) (ht : (pc : Int) + dflt = (tgt : Int)) (kk : PW X tgt lv st sh I L R k n) : PW X pc lv (.int x :: st) sh I L R k n :=
  fun ad H locs ls hp => lv_tableOut h.1 h.2.1 dc.1 h1 ht (kk ad H locs ls hp)
theorem pw_lookup {dflt : Int} {ps : Array (Int × Int)} {ln : Nat} {x : Int32} {off : Int} (tgt : Nat) (h : PXok X own cc d kc ks) (dc : Dc cc pc (.lookupswitch dflt ps) ln q) (hq : (ps.toList.zip (ps.toList.drop 1)).all (fun (a, next) => a.1 < next.1) = true) (ho : Op.lookupswitch.offset ps.toList dflt x.toInt = off) (ht : (pc : Int) + off = (tgt : Int)) (kk : PW X tgt lv st sh I L R k n) : PW X pc lv (.int x :: st) sh I L R k n :=
  fun ad H locs ls hp => lv_lookup h.1 h.2.1 dc.1 hq ho ht (kk ad H locs ls hp)
theorem pw_ldc {ix : Nat} {x : Int32} (h : PXok X own cc d kc ks) (dc : Dc cc pc (.ldc ix) 2 q) (hw : Cond.constant own ix x ∈ TW) (kk : PW X q lv (.int x :: st) sh I L R k n) : PW X pc lv st sh I L R k n :=
  PW.step (fun ad H locs ls hp w => lv_ldc h.1 h.2.1 h.2.2.2.1 (h.2.2.1 _ hw) dc.1 (by rw [dc.2]; exact w)) kk
theorem pw_ldcw {ix : Nat} {x : Int32} (h : PXok X own cc d kc ks) (dc : Dc cc pc (.ldc_w ix) 3 q) (hw : Cond.constant own ix x ∈ TW) (kk : PW X q lv (.int x :: st) sh I L R k n) : PW X pc lv st sh I L R k n :=
  PW.step (fun ad H locs ls hp w => lv_ldcw h.1 h.2.1 h.2.2.2.1 (h.2.2.1 _ hw) dc.1 (by rw [dc.2]; exact w)) kk
theorem pw_ldc2 {ix : Nat} {x : Int64} (h : PXok X own cc d kc ks) (dc : Dc cc pc (.ldc2_w ix) 3 q) (hw : Cond.constantLong own ix x ∈ TW) (kk : PW X q lv (.long x :: st) sh I L R k n) : PW X pc lv st sh I L R k n :=
  PW.step (fun ad H locs ls hp w => lv_ldc2 h.1 h.2.1 h.2.2.2.1 (h.2.2.1 _ hw) dc.1 (by rw [dc.2]; exact w)) kk
/-- a field by the pool: class number and slot -/
def FL (own : String) (ix ci f : Nat) : Prop := ci < 9 ∧ f < px_n ci ∧ Cond.fieldLink own ix (px_T ci f).1 (px_T ci f).2.1 (px_T ci f).2.2.1 ∈ TW
theorem pw_get {i ci f ix : Nat} {v : Value} (h : PXok X own cc d kc ks) (dc : Dc cc pc (.getfield ix) 3 q) (hf : FL own ix ci f) (hs : sh[i]? = some (.inl ci)) (hv : ∀ ad, px_fld ad I L R i f (px_ty ci f) = px_v ad v) (kk : PW X q lv (v :: st) sh I L R k n) : PW X pc lv (.ref i :: st) sh I L R k n :=
  PW.step (fun ad H locs ls hp w => va_get h.1 h.2.1 h.2.2.1 (px_in hf.1) h.2.2.2.1 h.2.2.2.2.1.1 hp.2.1 i (px_get hs) (px_cl hf.1) f hf.2.1 (h.2.2.1 _ hf.2.2) (fun _ h9 => h9) ((px_fs_get hf.2.1).trans (congrArg some (hv ad))) dc.1 (by rw [dc.2]; exact w)) kk
theorem pw_getI {i f ix : Nat} (ci : Nat) (h : PXok X own cc d kc ks) (dc : Dc cc pc (.getfield ix) 3 q) (hf : FL own ix ci f) (hs : sh[i]? = some (.inl ci)) (ht : px_k (px_ty ci f) = 0) (kk : PW X q lv (.int (I i f) :: st) sh I L R k n) : PW X pc lv (.ref i :: st) sh I L R k n :=
  pw_get h dc hf hs (fun ad => by unfold px_fld; rw [ht]; rfl) kk
theorem pw_getL {i f ix : Nat} (ci : Nat) (h : PXok X own cc d kc ks) (dc : Dc cc pc (.getfield ix) 3 q) (hf : FL own ix ci f) (hs : sh[i]? = some (.inl ci)) (ht : px_k (px_ty ci f) = 1) (kk : PW X q lv (.long (L i f) :: st) sh I L R k n) : PW X pc lv (.ref i :: st) sh I L R k n :=
  pw_get h dc hf hs (fun ad => by unfold px_fld; rw [ht]; rfl) kk
theorem pw_getR {i f ix j : Nat} (ci : Nat) (h : PXok X own cc d kc ks) (dc : Dc cc pc (.getfield ix) 3 q) (hf : FL own ix ci f) (hs : sh[i]? = some (.inl ci)) (ht : px_k (px_ty ci f) = 2) (hj : R i f = some j) (kk : PW X q lv (.ref j :: st) sh I L R k n) : PW X pc lv (.ref i :: st) sh I L R k n :=
  pw_get h dc hf hs (fun ad => by unfold px_fld; rw [ht, hj]; rfl) kk
theorem pw_getN {i f ix : Nat} (ci : Nat) (h : PXok X own cc d kc ks) (dc : Dc cc pc (.getfield ix) 3 q) (hf : FL own ix ci f) (hs : sh[i]? = some (.inl ci)) (ht : px_k (px_ty ci f) = 2) (hj : R i f = none) (kk : PW X q lv (.null :: st) sh I L R k n) : PW X pc lv (.ref i :: st) sh I L R k n :=
  pw_get h dc hf hs (fun ad => by unfold px_fld; rw [ht, hj]; rfl) kk
theorem pw_put {i ci f ix : Nat} {v : Value} {I' : IM} {L' : LM} {R' : RM} (h : PXok X own cc d kc ks) (dc : Dc cc pc (.putfield ix) 3 q) (hf : FL own ix ci f) (hs : sh[i]? = some (.inl ci)) (hnf : (px_T ci f).2.2.2 = false) (hn : ∀ ad, narrow (px_ty ci f) (px_v ad v) = px_v ad v) (hfit : ∀ ad, fits (px_ty ci f) (px_v ad v) = true)
    (hv : ∀ ad, px_v ad v = px_fld ad I' L' R' i f (px_ty ci f)) (h1 : ∀ j, j ≠ i → I' j = I j) (h2 : ∀ j, j ≠ i → L' j = L j) (h3 : ∀ j, j ≠ i → R' j = R j) (g1 : ∀ j, j ≠ f → I' i j = I i j) (g2 : ∀ j, j ≠ f → L' i j = L i j) (g3 : ∀ j, j ≠ f → R' i j = R i j) (hRb : px_Rb sh R → px_Rb sh R')
    (kk : PW X q lv st sh I' L' R' k n) : PW X pc lv (v :: .ref i :: st) sh I L R k n := by
  intro ad H locs ls hp
  refine va_put h.1 h.2.1 h.2.2.1 (px_in hf.1) (px_ty ci) (px_tyok hf.1) (px_nm hf.1) h.2.2.2.1 h.2.2.2.2.1.1 hp.2.1 hp.2.2.1 hp.2.2.2.1 i (px_get hs) (px_cl hf.1) f hf.2.1 (h.2.2.1 _ hf.2.2) (fun _ h9 => h9) hnf (px_tyok hf.1 f hf.2.1) (hn ad) (hfit ad) (by rw [px_fs_len]; exact hf.2.1) dc.1 (fun H1 locs1 hP hD hS => ?_)
  rw [dc.2]
  have e := px_set (cA := xA X) (ad := ad) (e := Sum.inr (ci, (px_fs ad I L R i ci).set f (px_v ad v))) hs (congrArg (fun z => Sum.inr (ci, z)) (px_fs_set hf.2.1 (hv ad) g1 g2 g3)) h1 h2 h3
  rw [e] at hP hD
  exact kk ad H1 locs1 ls ⟨⟨hp.1.1, hp.1.2.1, hp.1.2.2.1, hRb hp.1.2.2.2⟩, hP, hD, hS, hp.2.2.2.2⟩
theorem pw_putI {i f ix : Nat} {x : Int32} (ci : Nat) (h : PXok X own cc d kc ks) (dc : Dc cc pc (.putfield ix) 3 q) (hf : FL own ix ci f) (hs : sh[i]? = some (.inl ci)) (hnf : (px_T ci f).2.2.2 = false) (ht : px_k (px_ty ci f) = 0) (hn : narrow (px_ty ci f) (.int x) = .int x) (hfit : fits (px_ty ci f) (.int x) = true) (kk : PW X q lv st sh (u2 I i f x) L R k n) : PW X pc lv (.int x :: .ref i :: st) sh I L R k n :=
  pw_put (I' := u2 I i f x) (L' := L) (R' := R) h dc hf hs hnf (fun _ => hn) (fun _ => hfit) (fun ad => by unfold px_fld; rw [ht, u2_s]; rfl) (fun j hj => funext fun b => u2_n1 hj) (fun _ _ => rfl) (fun _ _ => rfl) (fun j hj => u2_n2 hj) (fun _ _ => rfl) (fun _ _ => rfl) id kk
theorem pw_putL {i f ix : Nat} {x : Int64} (ci : Nat) (h : PXok X own cc d kc ks) (dc : Dc cc pc (.putfield ix) 3 q) (hf : FL own ix ci f) (hs : sh[i]? = some (.inl ci)) (hnf : (px_T ci f).2.2.2 = false) (ht : px_k (px_ty ci f) = 1) (hn : narrow (px_ty ci f) (.long x) = .long x) (hfit : fits (px_ty ci f) (.long x) = true) (kk : PW X q lv st sh I (u2 L i f x) R k n) : PW X pc lv (.long x :: .ref i :: st) sh I L R k n :=
  pw_put (I' := I) (L' := u2 L i f x) (R' := R) h dc hf hs hnf (fun _ => hn) (fun _ => hfit) (fun ad => by unfold px_fld; rw [ht, u2_s]; rfl) (fun _ _ => rfl) (fun j hj => funext fun b => u2_n1 hj) (fun _ _ => rfl) (fun _ _ => rfl) (fun j hj => u2_n2 hj) (fun _ _ => rfl) id kk
theorem px_Rb_put {R : RM} {i f j : Nat} (hj : j < sh.length) (hb : px_Rb sh R) : px_Rb sh (u2 R i f (some j)) := by
  intro a b c ha hc
  unfold u2 at hc
  split at hc
  · cases hc
    exact hj
  · exact hb a b c ha hc
theorem px_Rb_putN {R : RM} {i f : Nat} (hb : px_Rb sh R) : px_Rb sh (u2 R i f none) := by
  intro a b c ha hc
  unfold u2 at hc
  split at hc
  · cases hc
  · exact hb a b c ha hc
theorem pw_putR {i f ix j : Nat} (ci : Nat) (h : PXok X own cc d kc ks) (dc : Dc cc pc (.putfield ix) 3 q) (hf : FL own ix ci f) (hs : sh[i]? = some (.inl ci)) (hnf : (px_T ci f).2.2.2 = false) (ht : px_k (px_ty ci f) = 2) (hn : ∀ a : Nat, narrow (px_ty ci f) (.ref a) = .ref a) (hfit : ∀ a : Nat, fits (px_ty ci f) (.ref a) = true) (hj : j < sh.length) (kk : PW X q lv st sh I L (u2 R i f (some j)) k n) : PW X pc lv (.ref j :: .ref i :: st) sh I L R k n :=
  pw_put (I' := I) (L' := L) (R' := u2 R i f (some j)) h dc hf hs hnf (fun ad => hn _) (fun ad => hfit _) (fun ad => by unfold px_fld; rw [ht, u2_s]; rfl) (fun _ _ => rfl) (fun _ _ => rfl) (fun j hj => funext fun b => u2_n1 hj) (fun _ _ => rfl) (fun _ _ => rfl) (fun j hj => u2_n2 hj) (px_Rb_put hj) kk
theorem pw_putN {i f ix : Nat} (ci : Nat) (h : PXok X own cc d kc ks) (dc : Dc cc pc (.putfield ix) 3 q) (hf : FL own ix ci f) (hs : sh[i]? = some (.inl ci)) (hnf : (px_T ci f).2.2.2 = false) (ht : px_k (px_ty ci f) = 2) (hn : narrow (px_ty ci f) .null = .null) (hfit : fits (px_ty ci f) .null = true) (kk : PW X q lv st sh I L (u2 R i f none) k n) : PW X pc lv (.null :: .ref i :: st) sh I L R k n :=
  pw_put (I' := I) (L' := L) (R' := u2 R i f none) h dc hf hs hnf (fun ad => hn) (fun ad => hfit) (fun ad => by unfold px_fld; rw [ht, u2_s]; rfl) (fun _ _ => rfl) (fun _ _ => rfl) (fun j hj => funext fun b => u2_n1 hj) (fun _ _ => rfl) (fun _ _ => rfl) (fun j hj => u2_n2 hj) px_Rb_putN kk
/-- a final field of references, in the constructor of its class -/
theorem pw_putF {i f ix j : Nat} (ci : Nat) (h : PXok X own cc d kc ks) (hin : (xM X).name = "<init>") (dc : Dc cc pc (.putfield ix) 3 q) (hf : FL own ix ci f) (hs : sh[i]? = some (.inl ci)) (hfin : (px_T ci f).2.2.2 = true) (hdecl : (px_T ci f).1 = own) (ht : px_k (px_ty ci f) = 2) (hn : ∀ a : Nat, narrow (px_ty ci f) (.ref a) = .ref a) (hfit : ∀ a : Nat, fits (px_ty ci f) (.ref a) = true) (hj : j < sh.length) (kk : PW X q lv st sh I L (u2 R i f (some j)) k n) : PW X pc lv (.ref j :: .ref i :: st) sh I L R k n := by
  intro ad H locs ls hp
  refine va_putF (v := .ref (ad j)) h.1 h.2.1 h.2.2.1 (px_in hf.1) (px_ty ci) (px_tyok hf.1) (px_nm hf.1) h.2.2.2.1 h.2.2.2.2.1.1 hp.2.1 hp.2.2.1 hp.2.2.2.1 i (px_get hs) (px_cl hf.1) f hf.2.1 (h.2.2.1 _ hf.2.2) (fun _ h9 => h9) hfin hin hdecl (px_tyok hf.1 f hf.2.1) (hn _) (hfit _) (by rw [px_fs_len]; exact hf.2.1) dc.1 (fun H1 locs1 hP hD hS => ?_)
  rw [dc.2]
  have e := px_set (cA := xA X) (ad := ad) (I' := I) (L' := L) (R' := u2 R i f (some j)) (e := Sum.inr (ci, (px_fs ad I L R i ci).set f (.ref (ad j)))) hs (congrArg (fun z => Sum.inr (ci, z)) (px_fs_set hf.2.1 (by unfold px_fld; rw [ht, u2_s]; rfl) (fun _ _ => rfl) (fun _ _ => rfl) (fun j hj => u2_n2 hj))) (fun _ _ => rfl) (fun _ _ => rfl) (fun j hj => funext fun b => u2_n1 hj)
  rw [e] at hP hD
  exact kk ad H1 locs1 ls ⟨⟨hp.1.1, hp.1.2.1, hp.1.2.2.1, px_Rb_put hj hp.1.2.2.2⟩, hP, hD, hS, hp.2.2.2.2⟩
/-- an index within, and what it is -/
def px_ix (x : Int32) (N j : Nat) : Prop := vp_in x N ∧ x.toNatClampNeg = j
theorem px_ix_nI {j N : Nat} (h : j < N) (hN : N < 2 ^ 31) : px_ix (nI j) N j := ⟨vp_in_nI h hN, nI_clamp (Nat.lt_trans h hN)⟩
theorem px_ix_lt {x : Int32} {N j : Nat} (h : px_ix x N j) : j < N := by
  obtain ⟨h1, rfl⟩ := h
  exact Nat.not_le.mp fun q => h1 (Or.inr q)
theorem pw_iald {a N j : Nat} {x : Int32} (h : PXok X own cc d kc ks) (dc : Dc cc pc .iaload 1 q) (hs : sh[a]? = some (.inr (.int, N))) (hx : px_ix x N j) (kk : PW X q lv (.int (I a j) :: st) sh I L R k n) : PW X pc lv (.int x :: .ref a :: st) sh I L R k n :=
  PW.step (fun ad H locs ls hp w => va_iald h.1 h.2.1 h.2.2.2.2.1.1 hp.2.1 a 0 (px_get hs) rfl hx.1 dc.1 (by rw [dc.2, hx.2]; exact w)) kk
theorem pw_bald {a N j : Nat} {x : Int32} (h : PXok X own cc d kc ks) (dc : Dc cc pc .baload 1 q) (hs : sh[a]? = some (.inr (.byte, N))) (hx : px_ix x N j) (kk : PW X q lv (.int (I a j) :: st) sh I L R k n) : PW X pc lv (.int x :: .ref a :: st) sh I L R k n :=
  PW.step (fun ad H locs ls hp w => va_bald h.1 h.2.1 h.2.2.2.2.1.1 hp.2.1 a 2 (px_get hs) rfl hx.1 dc.1 (by rw [dc.2, hx.2]; exact w)) kk
theorem pw_lald {a N j : Nat} {x : Int32} (h : PXok X own cc d kc ks) (dc : Dc cc pc .laload 1 q) (hs : sh[a]? = some (.inr (.long, N))) (hx : px_ix x N j) (kk : PW X q lv (.long (L a j) :: st) sh I L R k n) : PW X pc lv (.int x :: .ref a :: st) sh I L R k n :=
  PW.step (fun ad H locs ls hp w => va_lald h.1 h.2.1 h.2.2.2.2.1.1 hp.2.1 a 1 (px_get hs) rfl hx.1 dc.1 (by rw [dc.2, hx.2]; exact w)) kk
theorem u2_row {α : Type} {f : Nat → Nat → α} {a j : Nat} {v : α} : (fun b => if b = j then v else f a b) = u2 f a j v a := by
  funext b
  simp [u2]
theorem pw_iast {a N j : Nat} {x y : Int32} (h : PXok X own cc d kc ks) (dc : Dc cc pc .iastore 1 q) (hs : sh[a]? = some (.inr (.int, N))) (hx : px_ix x N j) (kk : PW X q lv st sh (u2 I a j y) L R k n) : PW X pc lv (.int y :: .int x :: .ref a :: st) sh I L R k n := by
  intro ad H locs ls hp
  refine va_iast h.1 h.2.1 h.2.2.2.2.1.1 hp.2.1 hp.2.2.1 hp.2.2.2.1 a 0 (px_get hs) rfl hx.1 dc.1 (fun H1 locs1 hP hD hS => ?_)
  rw [dc.2]
  rw [hx.2] at hP hD
  have e := px_set (cA := xA X) (ad := ad) (I := I) (L := L) (R := R) (I' := u2 I a j y) (L' := L) (R' := R) (e := Sum.inl (xA X .int, N, Sum.inl (upd (I a) j y))) hs (by show _ = Sum.inl (xA X .int, N, Sum.inl (u2 I a j y a)); rw [← u2_row]; rfl) (fun b hb => funext fun _ => u2_n1 hb) (fun _ _ => rfl) (fun _ _ => rfl)
  rw [e] at hP hD
  exact kk ad H1 locs1 ls ⟨hp.1, hP, hD, hS, hp.2.2.2.2⟩
theorem pw_bast {a N j : Nat} {x y : Int32} (h : PXok X own cc d kc ks) (dc : Dc cc pc .bastore 1 q) (hs : sh[a]? = some (.inr (.byte, N))) (hx : px_ix x N j) (kk : PW X q lv st sh (u2 I a j (vp_nar .byte y)) L R k n) : PW X pc lv (.int y :: .int x :: .ref a :: st) sh I L R k n := by
  intro ad H locs ls hp
  refine va_bast h.1 h.2.1 h.2.2.2.2.1.1 hp.2.1 hp.2.2.1 hp.2.2.2.1 a 2 (px_get hs) rfl hx.1 dc.1 (fun H1 locs1 hP hD hS => ?_)
  rw [dc.2]
  rw [hx.2] at hP hD
  have e := px_set (cA := xA X) (ad := ad) (I := I) (L := L) (R := R) (I' := u2 I a j (vp_nar .byte y)) (L' := L) (R' := R) (e := Sum.inl (xA X .byte, N, Sum.inl (upd (I a) j (vp_nar .byte y)))) hs (by show _ = Sum.inl (xA X .byte, N, Sum.inl (u2 I a j (vp_nar .byte y) a)); rw [← u2_row]; rfl) (fun b hb => funext fun _ => u2_n1 hb) (fun _ _ => rfl) (fun _ _ => rfl)
  rw [e] at hP hD
  exact kk ad H1 locs1 ls ⟨hp.1, hP, hD, hS, hp.2.2.2.2⟩
theorem pw_last {a N j : Nat} {x : Int32} {y : Int64} (h : PXok X own cc d kc ks) (dc : Dc cc pc .lastore 1 q) (hs : sh[a]? = some (.inr (.long, N))) (hx : px_ix x N j) (kk : PW X q lv st sh I (u2 L a j y) R k n) : PW X pc lv (.long y :: .int x :: .ref a :: st) sh I L R k n := by
  intro ad H locs ls hp
  refine va_last h.1 h.2.1 h.2.2.2.2.1.1 hp.2.1 hp.2.2.1 hp.2.2.2.1 a 1 (px_get hs) rfl hx.1 dc.1 (fun H1 locs1 hP hD hS => ?_)
  rw [dc.2]
  rw [hx.2] at hP hD
  have e := px_set (cA := xA X) (ad := ad) (I := I) (L := L) (R := R) (I' := I) (L' := u2 L a j y) (R' := R) (e := Sum.inl (xA X .long, N, Sum.inr (Sum.inl (vp_updL (L a) j y)))) hs (by show _ = Sum.inl (xA X .long, N, Sum.inr (Sum.inl (u2 L a j y a))); rw [← u2_row]; rfl) (fun _ _ => rfl) (fun b hb => funext fun _ => u2_n1 hb) (fun _ _ => rfl)
  rw [e] at hP hD
  exact kk ad H1 locs1 ls ⟨hp.1, hP, hD, hS, hp.2.2.2.2⟩
theorem pw_aald {a N j z t0 : Nat} {x : Int32} {ty : FieldType} (h : PXok X own cc d kc ks) (dc : Dc cc pc .aaload 1 q) (hs : sh[a]? = some (.inr (ty, N))) (hk : px_k ty = 2) (hr : ty.isReference = true) (ht : ∀ cA, (px_tys cA)[t0]? = some (cA ty, ty)) (hx : px_ix x N j) (hz : R a j = some z) (kk : PW X q lv (.ref z :: st) sh I L R k n) : PW X pc lv (.int x :: .ref a :: st) sh I L R k n := by
  refine PW.step (fun ad H locs ls hp w => ?_) kk
  have ha := px_get (cA := xA X) (ad := ad) (I := I) (L := L) (R := R) hs
  have he : px_ent (xA X) ad I L R a (.inr (ty, N)) = Sum.inl (xA X ty, N, Sum.inr (Sum.inr (Sum.inr (Sum.inr (fun j => (R a j).map ad))))) := by
    show Sum.inl (xA X ty, px_arr ad I L R a N ty) = _
    unfold px_arr
    rw [hk]
    rfl
  rw [he] at ha
  have hlt : x.toNatClampNeg < N := Nat.not_le.mp fun q => hx.1 (Or.inr q)
  refine W.aald (v := .ref (ad z)) (ty := ty) h.1 h.2.1 (hp.2.1 a _ ha) ((h.2.2.2.2.1.1.2 t0 _ (ht _)).1 N (fun j => va_rf ((R a j).map ad))) hr (fun q => by cases q) (by show ¬ (x < 0 ∨ (arrV _ _ _).slots.size ≤ _); rw [arrV_size]; exact hx.1) (by show (arrV _ _ _).slots[_]? = _; rw [arrV_read _ _ hlt, hx.2]; show some (va_rf ((R a j).map ad)) = _; rw [hz]; rfl) rfl rfl dc.1 (by rw [dc.2]; exact w)

end PXS
