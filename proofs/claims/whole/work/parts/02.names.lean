/-- the machine has the class of arrays over arrays of t (my own row: va_mna below asks for it) -/
def va_AOA (t : FieldType) (U : State) : Prop := (Cond.arrayOver (.array t)).before #[] U = true
theorem va_AOA.use {t : FieldType} {A : Array Value} {U : State} (h : va_AOA t U) : (Cond.arrayOver (.array t)).before A U = true := h
theorem px_idx_bare (vm : Vm) (comp : ClassId) : (vm.bare.classes.findIdx? fun (x : Class) => match x.kind with | .array component _ => component == comp | _ => false) = (vm.classes.findIdx? fun (x : Class) => match x.kind with | .array component _ => component == comp | _ => false) := by
  simp only [Vm.bare, Array.findIdx?_map]
  rfl
theorem va_AOA.moved {t : FieldType} {u U : State} (hvm : u.vm.Alike U.vm) (h : va_AOA t u) : va_AOA t U := by
  obtain ⟨comp, c, k, h1, h2, h3, h4, h5⟩ := arrayOverA_spec h
  obtain ⟨k', hk', he⟩ := hvm.2.2 _ _ h3
  have hi : (U.vm.classes.findIdx? fun (x : Class) => match x.kind with | .array component _ => component == comp | _ => false) = some c := by
    rw [← px_idx_bare]
    first | rw [hvm.bare_eq] | rw [← hvm.bare_eq]
    rw [px_idx_bare]
    exact h2
  have hkind : k'.kind = .array comp (.array t) := by rw [he]; exact h4
  have f1 : U.vm.findClass (FieldType.array t).toString = some comp := by rw [hvm.findClass]; exact h1
  have f2 : U.vm.findClass ("[" ++ (FieldType.array t).toString) = some c := by rw [hvm.findClass]; exact h5
  unfold va_AOA Cond.before Cond.holds
  simp only [Cond.value]
  first
    | (rw [f1, Option.bind_some]; refine (congrArg (fun o : Option Nat => (o.bind (fun c => (U.vm.classes[c]?).map fun (k : Class) => match k.kind with | .array _ ty => decide (ty = FieldType.array t) && decide (U.vm.findClass ("[" ++ (FieldType.array t).toString) = some c) | _ => false) == some true)) hi).trans ?_; simp [hk', hkind, f2])
    | simp [f1, hi, hk', hkind, f2]

/-! ===== BEGIN words of one list among another's, by their places ===== -/
theorem goodIn_r {big : List Cond} (ws : List Cond) (ps : List Nat) (hp : ws = ps.filterMap (fun i => big[i]?)) (h : ws.all goodWord = true) : GoodIn big ws := by
  intro w hw
  have h1 := List.all_eq_true.mp h w hw
  rw [hp] at hw
  obtain ⟨i, -, hi⟩ := List.mem_filterMap.mp hw
  have hm : w ∈ big := by first | exact List.mem_of_getElem? hi | exact List.getElem?_mem hi
  exact ⟨hm, good_of_word h1⟩
theorem goodIn_app {big a b : List Cond} (ha : GoodIn big a) (hb : GoodIn big b) : GoodIn big (a ++ b) := fun w h => (List.mem_append.mp h).elim (ha w) (hb w)
theorem goodIn_ca {big a b : List Cond} {c : Cond} (ha : GoodIn big (c :: a)) (hb : GoodIn big b) : GoodIn big (c :: (a ++ b)) := fun w h => (List.mem_cons.mp h).elim (fun e => ha w (List.mem_cons.mpr (Or.inl e))) (fun h => (List.mem_append.mp h).elim (fun h => ha w (List.mem_cons.mpr (Or.inr h))) (hb w))
theorem goodIn_sub {big ws : List Cond} (hm : ∀ w ∈ ws, w ∈ big) (h : ws.all goodWord = true) : GoodIn big ws := fun w hw => ⟨hm w hw, good_of_word (List.all_eq_true.mp h w hw)⟩
/-! ===== END ===== -/

/-! ===== BEGIN new T[n][m]: the outer array a place, the inner ones among the pooled ===== -/
/-- f, but v at every address of l -/
def vr_up {α : Type} (f : Nat → α) (l : List Nat) (v : α) : Nat → α := fun a => if a ∈ l then v else f a
theorem vr_up_in {α : Type} {f : Nat → α} {l : List Nat} {v : α} {a : Nat} (h : a ∈ l) : vr_up f l v a = v := if_pos h
theorem vr_up_ne {α : Type} {f : Nat → α} {l : List Nat} {v : α} {a : Nat} (h : a ∉ l) : vr_up f l v a = f a := if_neg h
theorem vr_rows {L l : List Nat} {f : Nat → va_E} {e : va_E} (h : ∀ a, a ∈ l → a ∉ L) : va_pl L f ++ l.map (fun a => (a, e)) = va_pl (L ++ l) (vr_up f l e) := by
  unfold va_pl
  rw [List.map_append]
  congr 1
  · apply List.map_congr_left
    intro a ha
    rw [vr_up_ne (fun q => h a q ha)]
  · apply List.map_congr_left
    intro a ha
    rw [vr_up_in ha]
theorem vr_lay {X rows : va_W} {x : Nat × va_E} {pl : va_W} {D : va_G} {cl : List vw_C} {H : Heap} (hP : va_P D cl (((X ++ pl) ++ [x]) ++ rows) H) : va_P D cl ((X ++ [x]) ++ (pl ++ rows)) H := by
  rw [List.append_assoc (X ++ pl)] at hP
  have h := va_P.swap hP
  rw [← List.append_assoc X] at h
  have h2 := va_P.swap h
  rw [List.append_assoc (X ++ [x])] at h2
  exact h2
theorem vr_layD {X rows : va_W} {x : Nat × va_E} {pl : va_W} {A : Nat → Prop} (hD : va_D A (((X ++ pl) ++ [x]) ++ rows)) : va_D A ((X ++ [x]) ++ (pl ++ rows)) := by
  rw [List.append_assoc (X ++ pl)] at hD
  have h := va_D.swap hD
  rw [← List.append_assoc X] at h
  have h2 := va_D.swap h
  rw [List.append_assoc (X ++ [x])] at h2
  exact h2
theorem vr_outer (c : ClassId) (N h0 : Nat) : ∀ i : Nat, Jvm.Free.Multi.outerC c N h0 i = arrV c N (fun j => va_rf (if j < i then some (h0 + 1 + j) else none))
  | 0 => by
    show ({ cls := c, slots := Array.replicate N .null, vm := .none } : Cell) = _
    rw [arrV_new]
    refine congrArg (arrV c N) (funext fun j => ?_)
    simp [va_rf]
  | i + 1 => by
    show (Jvm.Free.Multi.outerC c N h0 i).setSlot i (.ref (h0 + 1 + i)) = _
    rw [vr_outer c N h0 i, arrV_store]
    refine congrArg (arrV c N) (funext fun j => ?_)
    by_cases e : j = i
    · subst e
      simp [updV, va_rf]
    · by_cases h : j < i
      · simp [updV, e, h, Nat.lt_succ_of_lt h]
      · simp [updV, e, h, show ¬ j < i + 1 by omega]
section VGM
variable {p : Program} {l : Launch} {e : Env} {R : Room} {s : State} {m : MethodId} {args : Array Value} {below : List Frame} {meth : Method} {c : Code} {H : Heap} {locs : List Loc} {cells slots : Nat} {Q : State → Prop}
variable {cc : ByteArray} {pc : Nat} {ls : Array Slot} {rest : List Value} {D : va_G} {cl : List vw_C} {A : Nat → Prop} {a : Nat} {tys : List (ClassId × FieldType)} {ws : va_W} {H0 : Heap}
theorem va_mna {X : va_W} {L : List Nat} {f : Nat → va_E} {cc : ByteArray} (hexec : p.tables.exec = Jvm.exec) (hb : c.code = cc) {own : String} {index : Nat} {ty : FieldType} {cy : ClassId} (hown : s.vm.findClass own = some m.cls) (hclink : (Cond.classLink own index ("[" ++ (FieldType.array ty).toString)).before args s = true) (hover : va_AOA ty s) (harr : (Cond.arrayClass ty).before args s = true) (hcy : s.vm.findClass (FieldType.array ty).toString = some cy)
    (hK : va_K D cl tys s) (hP : va_P D cl (X ++ va_pl L f) H) (hD : va_D A (X ++ va_pl L f)) (hS : va_S A H0 H locs) (hA : ∀ q, H0.size ≤ q → A q) {n k : Int32} {N' K' : Nat} {z : vp_A} (hn : ¬ n < 0) (hk : ¬ k < 0) (hN : n.toNatClampNeg = N') (hM : k.toNatClampNeg = K')
    (hb1 : N' * 4 ≤ 536870912) (hb2 : K' * componentBytes ty ≤ 536870912) (hb3 : K' ≤ 536870912) (hdf : fits ty (defaultValue ty) = true) (hdd : (defaultValue ty).isDefault = true) (hcells : cells + (1 + N') ≤ R.cells) (hslots : slots + (N' + N' * K') ≤ R.slots) (hz : ∀ c : ClassId, Jvm.Free.Multi.innerC c K' (defaultValue ty) = vp_cell c z) (hdg : decode cc pc = .ok (.multianewarray index 2, 4))
    (kk : ∀ (q : Nat) (r : Nat → Nat) (cA : ClassId) (H1 : Heap), (∀ i j : Nat, i < N' → j < N' → r i = r j → i = j) → (∀ i : Nat, i < N' → r i ∉ L) → va_K D cl (tys ++ [(cA, .array ty)]) s →
      va_P D cl ((X ++ [(q, .inl (cA, N', .inr (.inr (.inr (.inr (fun i => if i < N' then some (r i) else none))))))]) ++ va_pl (L ++ (List.range N').map r) (vr_up f ((List.range N').map r) (.inl (cy, z)))) H1 → va_D A ((X ++ [(q, .inl (cA, N', .inr (.inr (.inr (.inr (fun i => if i < N' then some (r i) else none))))))]) ++ va_pl (L ++ (List.range N').map r) (vr_up f ((List.range N').map r) (.inl (cy, z)))) → va_S A H0 H1 locs →
      W p l e R s m args below meth c H1 locs (cells + 1 + N') (slots + N' + N' * K') Q (F0 m (pc + 4) ls (.ref q :: rest))) : W p l e R s m args below meth c H locs cells slots Q (F0 m pc ls (.int k :: .int n :: rest)) := by
  subst hN
  subst hM
  intro T hT Xs
  obtain ⟨vm₁, cA, comp, -, fA, fC, hO, -, X', step⟩ := Xs.multianewarray2F hexec hown hclink (va_AOA.use hover) harr (g := F0 m pc ls (.int k :: .int n :: rest)) rfl (by rw [hb]; exact hdg) rfl hn hk hb1 hb2 hb3 hdf hdd hcells hslots
  have ec : some cy = some comp := hcy.symm.trans fC
  cases ec
  generalize hF : Jvm.Free.Multi.fill (T.setVm vm₁) cA cy n.toNatClampNeg k.toNatClampNeg (defaultValue ty) n.toNatClampNeg = F at X' step
  have hTh : (T.setVm vm₁).heap = H := hT
  obtain ⟨f1, f2, -, -⟩ := Jvm.Free.Multi.fill_facts (T.setVm vm₁) cA cy n.toNatClampNeg k.toNatClampNeg (defaultValue ty) n.toNatClampNeg
  rw [hF, hTh] at f1 f2
  have hold : ∀ x : Nat, x < H.size → F.heap[x]? = H[x]? := fun x hx => by
    have := Jvm.Free.Multi.fill_old (T.setVm vm₁) cA cy n.toNatClampNeg k.toNatClampNeg (defaultValue ty) (a := x) (by rw [hTh]; exact hx) n.toNatClampNeg
    rw [hF, hTh] at this
    exact this
  have hrow : ∀ j : Nat, j < n.toNatClampNeg → F.heap[H.size + 1 + j]? = some (vp_cell cy z) := fun j hj => by
    have := Jvm.Free.Multi.fill_inner (T.setVm vm₁) cA cy n.toNatClampNeg k.toNatClampNeg (defaultValue ty) n.toNatClampNeg j hj
    rw [hF, hTh, hz] at this
    exact this
  have hout : Jvm.Free.Multi.outerC cA n.toNatClampNeg H.size n.toNatClampNeg = vp_cell cA (n.toNatClampNeg, .inr (.inr (.inr (.inr (fun i => if i < n.toNatClampNeg then some (H.size + 1 + i) else none))))) := by
    rw [vp_cell_q]
    exact vr_outer cA n.toNatClampNeg H.size n.toNatClampNeg
  rw [hout] at f2
  have hlt : ∀ a, a ∈ L → a < H.size := fun a ha => by
    obtain ⟨k9, hk9⟩ := va_pl_get (X := X) (f := f) ha
    exact (hP k9 _ hk9).lt
  have hnl : ∀ i : Nat, i < n.toNatClampNeg → H.size + 1 + i ∉ L := fun i _ h => by
    have := hlt _ h
    omega
  have hnm : ∀ a, a ∈ (List.range n.toNatClampNeg).map (fun i => H.size + 1 + i) → a ∉ L := fun a ha h => by
    obtain ⟨i, -, rfl⟩ := List.mem_map.mp ha
    have := hlt _ h
    omega
  have hP0 : va_P D cl (X ++ va_pl L f) F.heap := hP.kept (fun k9 x hx => hold x.1 ((hP k9 x hx).lt))
  have hP1 : va_P D cl ((X ++ va_pl L f) ++ [(H.size, .inl (cA, n.toNatClampNeg, .inr (.inr (.inr (.inr (fun i => if i < n.toNatClampNeg then some (H.size + 1 + i) else none))))))]) F.heap := hP0.app (fun k9 x hx => by
    have h0 : k9 < 1 := (List.getElem?_eq_some_iff.mp hx).1
    rw [show k9 = 0 by omega] at hx
    cases hx
    exact f2)
  have hP2 : va_P D cl (((X ++ va_pl L f) ++ [(H.size, .inl (cA, n.toNatClampNeg, .inr (.inr (.inr (.inr (fun i => if i < n.toNatClampNeg then some (H.size + 1 + i) else none))))))]) ++ ((List.range n.toNatClampNeg).map (fun i => H.size + 1 + i)).map (fun a => (a, .inl (cy, z)))) F.heap := hP1.app (fun k9 x hx => by
    obtain ⟨a, ha, rfl⟩ := List.mem_map.mp (List.mem_of_getElem? hx)
    obtain ⟨i, hi, rfl⟩ := List.mem_map.mp ha
    exact hrow i (List.mem_range.mp hi))
  have hD2 : va_D A (((X ++ va_pl L f) ++ [(H.size, .inl (cA, n.toNatClampNeg, .inr (.inr (.inr (.inr (fun i => if i < n.toNatClampNeg then some (H.size + 1 + i) else none))))))]) ++ ((List.range n.toNatClampNeg).map (fun i => H.size + 1 + i)).map (fun a => (a, .inl (cy, z)))) := by
    have hD1 := hD.push (e := .inl (cA, n.toNatClampNeg, .inr (.inr (.inr (.inr (fun i => if i < n.toNatClampNeg then some (H.size + 1 + i) else none)))))) hP rfl (hA _ hS.1)
    generalize hW1 : (X ++ va_pl L f) ++ [(H.size, .inl (cA, n.toNatClampNeg, .inr (.inr (.inr (.inr (fun i => if i < n.toNatClampNeg then some (H.size + 1 + i) else none))))))] = W1 at hD1 hP1 ⊢
    have hle : ∀ (k9 : Nat) (x : Nat × va_E), W1[k9]? = some x → x.1 ≤ H.size := fun k9 x hx => by
      rw [← hW1] at hx
      by_cases hl : k9 < (X ++ va_pl L f).length
      · rw [List.getElem?_append_left hl] at hx
        exact Nat.le_of_lt ((hP k9 x hx).lt)
      · rw [List.getElem?_append_right (by omega)] at hx
        have h0 : k9 - (X ++ va_pl L f).length < 1 := (List.getElem?_eq_some_iff.mp hx).1
        rw [show k9 - (X ++ va_pl L f).length = 0 by omega] at hx
        cases hx
        exact Nat.le_refl _
    have hr : ∀ (k9 : Nat) (x : Nat × va_E), (((List.range n.toNatClampNeg).map (fun i => H.size + 1 + i)).map (fun a => ((a, .inl (cy, z)) : Nat × va_E)))[k9]? = some x → x.1 = H.size + 1 + k9 := fun k9 x hx => by
      rw [List.getElem?_map, List.getElem?_map] at hx
      by_cases h9 : k9 < n.toNatClampNeg
      · rw [List.getElem?_range h9] at hx
        cases hx
        rfl
      · have hn0 : (List.range n.toNatClampNeg)[k9]? = none := List.getElem?_eq_none (by rw [List.length_range]; omega)
        rw [hn0] at hx
        cases hx
    refine ⟨fun i j x y hi hj hxy => ?_, fun k9 x hx => ?_⟩
    · by_cases h1 : i < W1.length <;> by_cases h2 : j < W1.length
      · rw [List.getElem?_append_left h1] at hi
        rw [List.getElem?_append_left h2] at hj
        exact hD1.1 i j x y hi hj hxy
      · rw [List.getElem?_append_left h1] at hi
        rw [List.getElem?_append_right (by omega)] at hj
        have := hle _ _ hi
        have := hr _ _ hj
        omega
      · rw [List.getElem?_append_right (by omega)] at hi
        rw [List.getElem?_append_left h2] at hj
        have := hle _ _ hj
        have := hr _ _ hi
        omega
      · rw [List.getElem?_append_right (by omega)] at hi hj
        have := hr _ _ hi
        have := hr _ _ hj
        omega
    · by_cases h1 : k9 < W1.length
      · rw [List.getElem?_append_left h1] at hx
        exact hD1.2 k9 x hx
      · rw [List.getElem?_append_right (by omega)] at hx
        have := hr _ _ hx
        exact hA _ (by have := hS.1; omega)
  have hAr : ArrOfT s cA (.array ty) := fun N9 z9 => by
    obtain ⟨-, k9, hk9, cm9, hkk9⟩ := (hO 0 0 0).1
    exact ⟨(fun q hq => by cases hq), k9, hk9, cm9, hkk9⟩
  have hK2 : va_K D cl (tys ++ [(cA, .array ty)]) s := ⟨hK.1, fun k9 x hx => by
    by_cases hl : k9 < tys.length
    · rw [List.getElem?_append_left hl] at hx
      exact hK.2 k9 x hx
    · rw [List.getElem?_append_right (by omega)] at hx
      have h0 : k9 - tys.length < 1 := (List.getElem?_eq_some_iff.mp hx).1
      rw [show k9 - tys.length = 0 by omega] at hx
      cases hx
      exact ⟨hAr, fA⟩⟩
  obtain ⟨t, a1, b1⟩ := kk H.size (fun i => H.size + 1 + i) cA F.heap (fun i j _ _ h => by have h9 : H.size + 1 + i = H.size + 1 + j := h; omega) hnl hK2 (by rw [← vr_rows hnm]; exact vr_lay hP2) (by rw [← vr_rows hnm]; exact vr_layD hD2) ⟨by rw [f1]; have := hS.1; omega, fun x h1 h2 => (hold x (Nat.lt_of_lt_of_le h1 hS.1)).trans (hS.2.1 x h1 h2), hS.2.2⟩ F rfl X'
  refine ⟨t, step t ?_, b1⟩
  have e : T.heap.size = H.size := by rw [hT]
  rw [e]
  exact a1
end VGM
/-! ===== END ===== -/

def RX0 : String := "ShaftLine$Beam"
def TX0 : u_T := fun k => match k with
  | 0 => ("ShaftLine$Beam", "count", "I", false)
  | 1 => ("ShaftLine$Beam", "place", "[I", true)
  | 2 => ("ShaftLine$Beam", "stand", "[I", true)
  | 3 => ("ShaftLine$Beam", "push", "[J", true)
  | 4 => ("ShaftLine$Beam", "below", "J", false)
  | 5 => ("ShaftLine$Beam", "stiff", "J", false)
  | 6 => ("ShaftLine$Beam", "wide", "J", false)
  | 7 => ("ShaftLine$Beam", "all", "J", false)
  | 8 => ("ShaftLine$Beam", "moment", "J", false)
  | 9 => ("ShaftLine$Beam", "squares", "[J", true)
  | 10 => ("ShaftLine$Beam", "cubes", "[J", true)
  | 11 => ("ShaftLine$Beam", "span", "[J", true)
  | 12 => ("ShaftLine$Beam", "lack", "[J", true)
  | 13 => ("ShaftLine$Beam", "turn", "[J", true)
  | 14 => ("ShaftLine$Beam", "bend", "[J", true)
  | 15 => ("ShaftLine$Beam", "ahead", "[J", true)
  | _ => ("ShaftLine$Beam", "behind", "[J", true)
def tyX0 : Nat → FieldType := fun k => match k with
  | 0 => .int
  | 1 => .array .int
  | 2 => .array .int
  | 3 => .array .long
  | 4 => .long
  | 5 => .long
  | 6 => .long
  | 7 => .long
  | 8 => .long
  | 9 => .array .long
  | 10 => .array .long
  | 11 => .array .long
  | 12 => .array .long
  | 13 => .array .long
  | 14 => .array .long
  | 15 => .array .long
  | _ => .array .long
abbrev wsX00 : List Cond := u_ws RX0 TX0 17
theorem nmX0 : ∀ a, a < 17 → ∀ b, b < 17 → a ≠ b → (TX0 a).2.1 ≠ (TX0 b).2.1 := by decide +kernel
theorem tyX0_ok : ∀ k, k < 17 → parseFieldDescriptor (TX0 k).2.2.1 = some (tyX0 k) := by decide +kernel
abbrev cX0_init : ByteArray := prog_2_method_1_code
def yX0_init : MethodName := ⟨RX0, "<init>", "()V"⟩
abbrev cX0_start : ByteArray := prog_2_method_2_code
def yX0_start : MethodName := ⟨RX0, "start", "(I)V"⟩
abbrev cX0_add : ByteArray := prog_2_method_3_code
def yX0_add : MethodName := ⟨RX0, "add", "(II)V"⟩
abbrev cX0_carry : ByteArray := prog_2_method_4_code
def yX0_carry : MethodName := ⟨RX0, "carry", "([III)V"⟩
abbrev cX0_solve : ByteArray := prog_2_method_5_code
def yX0_solve : MethodName := ⟨RX0, "solve", "()V"⟩
abbrev cX0_measure : ByteArray := prog_2_method_6_code
def yX0_measure : MethodName := ⟨RX0, "measure", "()V"⟩
abbrev cX0_firstPush : ByteArray := prog_2_method_7_code
def yX0_firstPush : MethodName := ⟨RX0, "firstPush", "()J"⟩
abbrev cX0_secondPush : ByteArray := prog_2_method_8_code
def yX0_secondPush : MethodName := ⟨RX0, "secondPush", "()J"⟩
abbrev cX0_findDeterminants : ByteArray := prog_2_method_9_code
def yX0_findDeterminants : MethodName := ⟨RX0, "findDeterminants", "()V"⟩
abbrev cX0_findBends : ByteArray := prog_2_method_10_code
def yX0_findBends : MethodName := ⟨RX0, "findBends", "()V"⟩
abbrev cX0_findPushes : ByteArray := prog_2_method_11_code
def yX0_findPushes : MethodName := ⟨RX0, "findPushes", "()V"⟩
abbrev cX0_cubeOf : ByteArray := prog_2_method_12_code
def yX0_cubeOf : MethodName := ⟨RX0, "cubeOf", "(J)J"⟩
abbrev cX0_height : ByteArray := prog_2_method_13_code
def yX0_height : MethodName := ⟨RX0, "height", "(I)J"⟩
abbrev cX0_slope : ByteArray := prog_2_method_14_code
def yX0_slope : MethodName := ⟨RX0, "slope", "(I)J"⟩
abbrev cX0_heightBelow : ByteArray := prog_2_method_15_code
def yX0_heightBelow : MethodName := ⟨RX0, "heightBelow", "()J"⟩
abbrev cX0_bulge : ByteArray := prog_2_method_16_code
def yX0_bulge : MethodName := ⟨RX0, "bulge", "(I)J"⟩
abbrev cX0_firstLevel : ByteArray := prog_2_method_17_code
def yX0_firstLevel : MethodName := ⟨RX0, "firstLevel", "()J"⟩
abbrev cX0_secondLevel : ByteArray := prog_2_method_18_code
def yX0_secondLevel : MethodName := ⟨RX0, "secondLevel", "()J"⟩
def RX1 : String := "ShaftLine$Fraction"
def TX1 : u_T := fun k => match k with
  | 0 => ("ShaftLine$Fraction", "above", "J", false)
  | _ => ("ShaftLine$Fraction", "below", "J", false)
def tyX1 : Nat → FieldType := fun k => match k with
  | 0 => .long
  | _ => .long
abbrev wsX10 : List Cond := u_ws RX1 TX1 2
theorem nmX1 : ∀ a, a < 2 → ∀ b, b < 2 → a ≠ b → (TX1 a).2.1 ≠ (TX1 b).2.1 := by decide +kernel
theorem tyX1_ok : ∀ k, k < 2 → parseFieldDescriptor (TX1 k).2.2.1 = some (tyX1 k) := by decide +kernel
abbrev cX1_init : ByteArray := prog_3_method_1_code
def yX1_init : MethodName := ⟨RX1, "<init>", "()V"⟩
abbrev cX1_become : ByteArray := prog_3_method_2_code
def yX1_become : MethodName := ⟨RX1, "become", "(JJ)V"⟩
abbrev cX1_takeAway : ByteArray := prog_3_method_3_code
def yX1_takeAway : MethodName := ⟨RX1, "takeAway", "(LShaftLine$Fraction;)V"⟩
abbrev cX1_part : ByteArray := prog_3_method_4_code
def yX1_part : MethodName := ⟨RX1, "part", "(I)J"⟩
def RX2 : String := "ShaftLine$Line"
def TX2 : u_T := fun k => match k with
  | 0 => ("ShaftLine$Line", "count", "I", false)
  | 1 => ("ShaftLine$Line", "place", "[I", true)
  | 2 => ("ShaftLine$Line", "offset", "[I", true)
  | 3 => ("ShaftLine$Line", "wear", "[I", true)
  | 4 => ("ShaftLine$Line", "reading", "[I", true)
  | 5 => ("ShaftLine$Line", "weight", "[I", true)
  | _ => ("ShaftLine$Line", "stiffness", "I", false)
def tyX2 : Nat → FieldType := fun k => match k with
  | 0 => .int
  | 1 => .array .int
  | 2 => .array .int
  | 3 => .array .int
  | 4 => .array .int
  | 5 => .array .int
  | _ => .int
abbrev wsX20 : List Cond := u_ws RX2 TX2 7
theorem nmX2 : ∀ a, a < 7 → ∀ b, b < 7 → a ≠ b → (TX2 a).2.1 ≠ (TX2 b).2.1 := by decide +kernel
theorem tyX2_ok : ∀ k, k < 7 → parseFieldDescriptor (TX2 k).2.2.1 = some (tyX2 k) := by decide +kernel
abbrev cX2_init : ByteArray := prog_4_method_1_code
def yX2_init : MethodName := ⟨RX2, "<init>", "()V"⟩
abbrev cX2_clear : ByteArray := prog_4_method_2_code
def yX2_clear : MethodName := ⟨RX2, "clear", "()V"⟩
abbrev cX2_become : ByteArray := prog_4_method_3_code
def yX2_become : MethodName := ⟨RX2, "become", "(LShaftLine$Line;)V"⟩
abbrev cX2_bearingAt : ByteArray := prog_4_method_4_code
def yX2_bearingAt : MethodName := ⟨RX2, "bearingAt", "(I)I"⟩
abbrev cX2_bearingsBelow : ByteArray := prog_4_method_5_code
def yX2_bearingsBelow : MethodName := ⟨RX2, "bearingsBelow", "(I)I"⟩
abbrev cX2_insert : ByteArray := prog_4_method_6_code
def yX2_insert : MethodName := ⟨RX2, "insert", "(II)I"⟩
abbrev cX2_delete : ByteArray := prog_4_method_7_code
def yX2_delete : MethodName := ⟨RX2, "delete", "(I)V"⟩
abbrev cX2_shift : ByteArray := prog_4_method_8_code
def yX2_shift : MethodName := ⟨RX2, "shift", "(II)V"⟩
abbrev cX2_allWeights : ByteArray := prog_4_method_9_code
def yX2_allWeights : MethodName := ⟨RX2, "allWeights", "()I"⟩
abbrev cX2_placesWithWeights : ByteArray := prog_4_method_10_code
def yX2_placesWithWeights : MethodName := ⟨RX2, "placesWithWeights", "()I"⟩
abbrev cX2_missing : ByteArray := prog_4_method_11_code
def yX2_missing : MethodName := ⟨RX2, "missing", "()I"⟩
abbrev cX2_missingMoment : ByteArray := prog_4_method_12_code
def yX2_missingMoment : MethodName := ⟨RX2, "missingMoment", "()I"⟩
abbrev cX2_isWrong : ByteArray := prog_4_method_13_code
def yX2_isWrong : MethodName := ⟨RX2, "isWrong", "(I)Z"⟩
abbrev cX2_wears : ByteArray := prog_4_method_14_code
def yX2_wears : MethodName := ⟨RX2, "wears", "(II)Z"⟩
def RX3 : String := "ShaftLine$Planner"
def TX3 : u_T := fun k => match k with
  | 0 => ("ShaftLine$Planner", "moved", "I", false)
  | 1 => ("ShaftLine$Planner", "best", "[I", true)
  | 2 => ("ShaftLine$Planner", "line", "LShaftLine$Line;", false)
  | 3 => ("ShaftLine$Planner", "low", "J", false)
  | 4 => ("ShaftLine$Planner", "high", "J", false)
  | 5 => ("ShaftLine$Planner", "bestSum", "I", false)
  | 6 => ("ShaftLine$Planner", "sets", "I", false)
  | 7 => ("ShaftLine$Planner", "codes", "[I", true)
  | 8 => ("ShaftLine$Planner", "members", "[I", true)
  | 9 => ("ShaftLine$Planner", "belows", "[J", true)
  | 10 => ("ShaftLine$Planner", "bases", "[J", true)
  | 11 => ("ShaftLine$Planner", "gains", "[J", true)
  | 12 => ("ShaftLine$Planner", "margins", "[J", true)
  | 13 => ("ShaftLine$Planner", "moves", "[I", true)
  | _ => ("ShaftLine$Planner", "noWeights", "[I", true)
def tyX3 : Nat → FieldType := fun k => match k with
  | 0 => .int
  | 1 => .array .int
  | 2 => .object "ShaftLine$Line"
  | 3 => .long
  | 4 => .long
  | 5 => .int
  | 6 => .int
  | 7 => .array .int
  | 8 => .array .int
  | 9 => .array .long
  | 10 => .array .long
  | 11 => .array .long
  | 12 => .array .long
  | 13 => .array .int
  | _ => .array .int
abbrev wsX30 : List Cond := u_ws RX3 TX3 15
theorem nmX3 : ∀ a, a < 15 → ∀ b, b < 15 → a ≠ b → (TX3 a).2.1 ≠ (TX3 b).2.1 := by decide +kernel
theorem tyX3_ok : ∀ k, k < 15 → parseFieldDescriptor (TX3 k).2.2.1 = some (tyX3 k) := by decide +kernel
abbrev cX3_init : ByteArray := prog_5_method_1_code
def yX3_init : MethodName := ⟨RX3, "<init>", "()V"⟩
abbrev cX3_start : ByteArray := prog_5_method_2_code
def yX3_start : MethodName := ⟨RX3, "start", "(LShaftLine$Line;II)V"⟩
abbrev cX3_mayPlan : ByteArray := prog_5_method_3_code
def yX3_mayPlan : MethodName := ⟨RX3, "mayPlan", "()Z"⟩
abbrev cX3_prepareSets : ByteArray := prog_5_method_4_code
def yX3_prepareSets : MethodName := ⟨RX3, "prepareSets", "(LShaftLine$Rest;)V"⟩
abbrev cX3_prepareState : ByteArray := prog_5_method_5_code
def yX3_prepareState : MethodName := ⟨RX3, "prepareState", "(LShaftLine$Rest;[II)V"⟩
abbrev cX3_keepMargins : ByteArray := prog_5_method_6_code
def yX3_keepMargins : MethodName := ⟨RX3, "keepMargins", "(LShaftLine$Rest;I[JI)V"⟩
abbrev cX3_search : ByteArray := prog_5_method_7_code
def yX3_search : MethodName := ⟨RX3, "search", "(I)V"⟩
abbrev cX3_takeMoves : ByteArray := prog_5_method_8_code
def yX3_takeMoves : MethodName := ⟨RX3, "takeMoves", "(I)Z"⟩
abbrev cX3_keepMoves : ByteArray := prog_5_method_9_code
def yX3_keepMoves : MethodName := ⟨RX3, "keepMoves", "()V"⟩
abbrev cX3_fitsInAll : ByteArray := prog_5_method_10_code
def yX3_fitsInAll : MethodName := ⟨RX3, "fitsInAll", "(I)Z"⟩
abbrev cX3_fitsIn : ByteArray := prog_5_method_11_code
def yX3_fitsIn : MethodName := ⟨RX3, "fitsIn", "(I)Z"⟩
abbrev cX3_holds : ByteArray := prog_5_method_12_code
def yX3_holds : MethodName := ⟨RX3, "holds", "(II)Z"⟩
abbrev cX3_isWithinBounds : ByteArray := prog_5_method_13_code
def yX3_isWithinBounds : MethodName := ⟨RX3, "isWithinBounds", "(I)Z"⟩
def RX4 : String := "ShaftLine$Reader"
def TX4 : u_T := fun k => match k with
  | 0 => ("ShaftLine$Reader", "draft", "LShaftLine$Line;", true)
  | 1 => ("ShaftLine$Reader", "text", "[B", false)
  | 2 => ("ShaftLine$Reader", "length", "I", false)
  | 3 => ("ShaftLine$Reader", "at", "I", false)
  | 4 => ("ShaftLine$Reader", "numberAt", "I", false)
  | _ => ("ShaftLine$Reader", "fault", "I", false)
def tyX4 : Nat → FieldType := fun k => match k with
  | 0 => .object "ShaftLine$Line"
  | 1 => .array .byte
  | 2 => .int
  | 3 => .int
  | 4 => .int
  | _ => .int
abbrev wsX40 : List Cond := u_ws RX4 TX4 6
theorem nmX4 : ∀ a, a < 6 → ∀ b, b < 6 → a ≠ b → (TX4 a).2.1 ≠ (TX4 b).2.1 := by decide +kernel
theorem tyX4_ok : ∀ k, k < 6 → parseFieldDescriptor (TX4 k).2.2.1 = some (tyX4 k) := by decide +kernel
abbrev cX4_init : ByteArray := prog_6_method_1_code
def yX4_init : MethodName := ⟨RX4, "<init>", "()V"⟩
abbrev cX4_faultOf : ByteArray := prog_6_method_2_code
def yX4_faultOf : MethodName := ⟨RX4, "faultOf", "([BI)I"⟩
abbrev cX4_readClause : ByteArray := prog_6_method_3_code
def yX4_readClause : MethodName := ⟨RX4, "readClause", "()Z"⟩
abbrev cX4_readBearing : ByteArray := prog_6_method_4_code
def yX4_readBearing : MethodName := ⟨RX4, "readBearing", "()Z"⟩
abbrev cX4_readWeight : ByteArray := prog_6_method_5_code
def yX4_readWeight : MethodName := ⟨RX4, "readWeight", "()Z"⟩
abbrev cX4_readStiffness : ByteArray := prog_6_method_6_code
def yX4_readStiffness : MethodName := ⟨RX4, "readStiffness", "()Z"⟩
abbrev cX4_readNumber : ByteArray := prog_6_method_7_code
def yX4_readNumber : MethodName := ⟨RX4, "readNumber", "()I"⟩
abbrev cX4_isDigit : ByteArray := prog_6_method_8_code
def yX4_isDigit : MethodName := ⟨RX4, "isDigit", "()Z"⟩
abbrev cX4_steps : ByteArray := prog_6_method_9_code
def yX4_steps : MethodName := ⟨RX4, "steps", "(C)Z"⟩
abbrev cX4_skipBlanks : ByteArray := prog_6_method_10_code
def yX4_skipBlanks : MethodName := ⟨RX4, "skipBlanks", "()V"⟩
abbrev cX4_next : ByteArray := prog_6_method_11_code
def yX4_next : MethodName := ⟨RX4, "next", "()I"⟩
abbrev cX4_fail : ByteArray := prog_6_method_12_code
def yX4_fail : MethodName := ⟨RX4, "fail", "(I)Z"⟩
def RX5 : String := "ShaftLine$Rest"
def TX5 : u_T := fun k => match k with
  | 0 => ("ShaftLine$Rest", "beam", "LShaftLine$Beam;", true)
  | 1 => ("ShaftLine$Rest", "count", "I", false)
  | 2 => ("ShaftLine$Rest", "place", "[I", true)
  | 3 => ("ShaftLine$Rest", "stand", "[I", true)
  | _ => ("ShaftLine$Rest", "seat", "[I", true)
def tyX5 : Nat → FieldType := fun k => match k with
  | 0 => .object "ShaftLine$Beam"
  | 1 => .int
  | 2 => .array .int
  | 3 => .array .int
  | _ => .array .int
abbrev wsX50 : List Cond := u_ws RX5 TX5 5
theorem nmX5 : ∀ a, a < 5 → ∀ b, b < 5 → a ≠ b → (TX5 a).2.1 ≠ (TX5 b).2.1 := by decide +kernel
theorem tyX5_ok : ∀ k, k < 5 → parseFieldDescriptor (TX5 k).2.2.1 = some (tyX5 k) := by decide +kernel
abbrev cX5_init : ByteArray := prog_7_method_1_code
def yX5_init : MethodName := ⟨RX5, "<init>", "()V"⟩
abbrev cX5_start : ByteArray := prog_7_method_2_code
def yX5_start : MethodName := ⟨RX5, "start", "(I[I)V"⟩
abbrev cX5_put : ByteArray := prog_7_method_3_code
def yX5_put : MethodName := ⟨RX5, "put", "(II)V"⟩
abbrev cX5_settle : ByteArray := prog_7_method_4_code
def yX5_settle : MethodName := ⟨RX5, "settle", "()Z"⟩
abbrev cX5_lay : ByteArray := prog_7_method_5_code
def yX5_lay : MethodName := ⟨RX5, "lay", "(I)V"⟩
abbrev cX5_holds : ByteArray := prog_7_method_6_code
def yX5_holds : MethodName := ⟨RX5, "holds", "()Z"⟩
abbrev cX5_isMember : ByteArray := prog_7_method_7_code
def yX5_isMember : MethodName := ⟨RX5, "isMember", "(I)Z"⟩
abbrev cX5_pushOf : ByteArray := prog_7_method_8_code
def yX5_pushOf : MethodName := ⟨RX5, "pushOf", "(I)J"⟩
abbrev cX5_marginOf : ByteArray := prog_7_method_9_code
def yX5_marginOf : MethodName := ⟨RX5, "marginOf", "(I)J"⟩
def RX6 : String := "ShaftLine$Sheet"
def TX6 : u_T := fun k => match k with
  | 0 => ("ShaftLine$Sheet", "held", "Z", false)
  | 1 => ("ShaftLine$Sheet", "lane", "I", false)
  | 2 => ("ShaftLine$Sheet", "count", "I", false)
  | _ => ("ShaftLine$Sheet", "items", "[I", true)
def tyX6 : Nat → FieldType := fun k => match k with
  | 0 => .boolean
  | 1 => .int
  | 2 => .int
  | _ => .array .int
abbrev wsX60 : List Cond := u_ws RX6 TX6 4
theorem nmX6 : ∀ a, a < 4 → ∀ b, b < 4 → a ≠ b → (TX6 a).2.1 ≠ (TX6 b).2.1 := by decide +kernel
theorem tyX6_ok : ∀ k, k < 4 → parseFieldDescriptor (TX6 k).2.2.1 = some (tyX6 k) := by decide +kernel
abbrev cX6_init : ByteArray := prog_8_method_1_code
def yX6_init : MethodName := ⟨RX6, "<init>", "()V"⟩
abbrev cX6_begin : ByteArray := prog_8_method_2_code
def yX6_begin : MethodName := ⟨RX6, "begin", "(II)V"⟩
abbrev cX6_has : ByteArray := prog_8_method_3_code
def yX6_has : MethodName := ⟨RX6, "has", "(II)Z"⟩
abbrev cX6_faultOf : ByteArray := prog_8_method_4_code
def yX6_faultOf : MethodName := ⟨RX6, "faultOf", "(III)I"⟩
abbrev cX6_put : ByteArray := prog_8_method_5_code
def yX6_put : MethodName := ⟨RX6, "put", "(II)V"⟩
def RX7 : String := "ShaftLine"
def TX7 : u_T := fun k => match k with
  | 0 => ("ShaftLine", "line", "LShaftLine$Line;", true)
  | 1 => ("ShaftLine", "rises", "[[I", true)
  | 2 => ("ShaftLine", "tape", "[B", true)
  | 3 => ("ShaftLine", "taped", "I", false)
  | 4 => ("ShaftLine", "reader", "LShaftLine$Reader;", true)
  | 5 => ("ShaftLine", "sheets", "[LShaftLine$Sheet;", true)
  | 6 => ("ShaftLine", "beam", "LShaftLine$Beam;", true)
  | 7 => ("ShaftLine", "rightBeam", "LShaftLine$Beam;", true)
  | 8 => ("ShaftLine", "rest", "LShaftLine$Rest;", true)
  | 9 => ("ShaftLine", "restState", "I", false)
  | 10 => ("ShaftLine", "restFalls", "Z", false)
  | 11 => ("ShaftLine", "low", "I", false)
  | 12 => ("ShaftLine", "high", "I", false)
  | 13 => ("ShaftLine", "planner", "LShaftLine$Planner;", true)
  | 14 => ("ShaftLine", "plannedStates", "I", false)
  | 15 => ("ShaftLine", "answer", "LShaftLine$Fraction;", true)
  | _ => ("ShaftLine", "rightAnswer", "LShaftLine$Fraction;", true)
def tyX7 : Nat → FieldType := fun k => match k with
  | 0 => .object "ShaftLine$Line"
  | 1 => .array (.array .int)
  | 2 => .array .byte
  | 3 => .int
  | 4 => .object "ShaftLine$Reader"
  | 5 => .array (.object "ShaftLine$Sheet")
  | 6 => .object "ShaftLine$Beam"
  | 7 => .object "ShaftLine$Beam"
  | 8 => .object "ShaftLine$Rest"
  | 9 => .int
  | 10 => .boolean
  | 11 => .int
  | 12 => .int
  | 13 => .object "ShaftLine$Planner"
  | 14 => .int
  | 15 => .object "ShaftLine$Fraction"
  | _ => .object "ShaftLine$Fraction"
abbrev wsX70 : List Cond := u_ws RX7 TX7 17
theorem nmX7 : ∀ a, a < 17 → ∀ b, b < 17 → a ≠ b → (TX7 a).2.1 ≠ (TX7 b).2.1 := by decide +kernel
theorem tyX7_ok : ∀ k, k < 17 → parseFieldDescriptor (TX7 k).2.2.1 = some (tyX7 k) := by decide +kernel
abbrev cX7_init : ByteArray := prog_1_method_1_code
def yX7_init : MethodName := ⟨RX7, "<init>", "()V"⟩
abbrev cX7_bearing : ByteArray := prog_1_method_2_code
def yX7_bearing : MethodName := ⟨RX7, "bearing", "(II)I"⟩
abbrev cX7_remove : ByteArray := prog_1_method_3_code
def yX7_remove : MethodName := ⟨RX7, "remove", "(I)I"⟩
abbrev cX7_offset : ByteArray := prog_1_method_4_code
def yX7_offset : MethodName := ⟨RX7, "offset", "(II)I"⟩
abbrev cX7_weight : ByteArray := prog_1_method_5_code
def yX7_weight : MethodName := ⟨RX7, "weight", "(II)I"⟩
abbrev cX7_stiffness : ByteArray := prog_1_method_6_code
def yX7_stiffness : MethodName := ⟨RX7, "stiffness", "(I)I"⟩
abbrev cX7_rise : ByteArray := prog_1_method_7_code
def yX7_rise : MethodName := ⟨RX7, "rise", "(III)I"⟩
abbrev cX7_rises : ByteArray := prog_1_method_8_code
def yX7_rises : MethodName := ⟨RX7, "rises", "(IIIII)I"⟩
abbrev cX7_type : ByteArray := prog_1_method_9_code
def yX7_type : MethodName := ⟨RX7, "type", "(JI)I"⟩
abbrev cX7_read : ByteArray := prog_1_method_10_code
def yX7_read : MethodName := ⟨RX7, "read", "()I"⟩
abbrev cX7_told : ByteArray := prog_1_method_11_code
def yX7_told : MethodName := ⟨RX7, "told", "(II)I"⟩
abbrev cX7_count : ByteArray := prog_1_method_12_code
def yX7_count : MethodName := ⟨RX7, "count", "(I)I"⟩
abbrev cX7_load : ByteArray := prog_1_method_13_code
def yX7_load : MethodName := ⟨RX7, "load", "(III)J"⟩
abbrev cX7_lifted : ByteArray := prog_1_method_14_code
def yX7_lifted : MethodName := ⟨RX7, "lifted", "(I)I"⟩
abbrev cX7_high : ByteArray := prog_1_method_15_code
def yX7_high : MethodName := ⟨RX7, "high", "(III)J"⟩
abbrev cX7_through : ByteArray := prog_1_method_16_code
def yX7_through : MethodName := ⟨RX7, "through", "(III)J"⟩
abbrev cX7_table : ByteArray := prog_1_method_17_code
def yX7_table : MethodName := ⟨RX7, "table", "(III)J"⟩
abbrev cX7_coupling : ByteArray := prog_1_method_18_code
def yX7_coupling : MethodName := ⟨RX7, "coupling", "(IIII)J"⟩
abbrev cX7_jack : ByteArray := prog_1_method_19_code
def yX7_jack : MethodName := ⟨RX7, "jack", "(IIII)J"⟩
abbrev cX7_bounds : ByteArray := prog_1_method_20_code
def yX7_bounds : MethodName := ⟨RX7, "bounds", "(II)I"⟩
abbrev cX7_fits : ByteArray := prog_1_method_21_code
def yX7_fits : MethodName := ⟨RX7, "fits", "(I)I"⟩
abbrev cX7_plan : ByteArray := prog_1_method_22_code
def yX7_plan : MethodName := ⟨RX7, "plan", "(I)I"⟩
abbrev cX7_move : ByteArray := prog_1_method_23_code
def yX7_move : MethodName := ⟨RX7, "move", "(II)I"⟩
abbrev cX7_reading : ByteArray := prog_1_method_24_code
def yX7_reading : MethodName := ⟨RX7, "reading", "(II)I"⟩
abbrev cX7_closes : ByteArray := prog_1_method_25_code
def yX7_closes : MethodName := ⟨RX7, "closes", "()I"⟩
abbrev cX7_mended : ByteArray := prog_1_method_26_code
def yX7_mended : MethodName := ⟨RX7, "mended", "(I)I"⟩
abbrev cX7_run : ByteArray := prog_1_method_27_code
def yX7_run : MethodName := ⟨RX7, "run", "(I)I"⟩
abbrev cX7_whirl : ByteArray := prog_1_method_28_code
def yX7_whirl : MethodName := ⟨RX7, "whirl", "()I"⟩
abbrev cX7_sheet : ByteArray := prog_1_method_29_code
def yX7_sheet : MethodName := ⟨RX7, "sheet", "(III)I"⟩
abbrev cX7_drop : ByteArray := prog_1_method_30_code
def yX7_drop : MethodName := ⟨RX7, "drop", "(I)I"⟩
abbrev cX7_item : ByteArray := prog_1_method_31_code
def yX7_item : MethodName := ⟨RX7, "item", "(IIII)I"⟩
abbrev cX7_copy : ByteArray := prog_1_method_32_code
def yX7_copy : MethodName := ⟨RX7, "copy", "(IIIII)I"⟩
abbrev cX7_isWithin : ByteArray := prog_1_method_33_code
def yX7_isWithin : MethodName := ⟨RX7, "isWithin", "(III)Z"⟩
abbrev cX7_isPlace : ByteArray := prog_1_method_34_code
def yX7_isPlace : MethodName := ⟨RX7, "isPlace", "(I)Z"⟩
abbrev cX7_isState : ByteArray := prog_1_method_35_code
def yX7_isState : MethodName := ⟨RX7, "isState", "(I)Z"⟩
abbrev cX7_isRise : ByteArray := prog_1_method_36_code
def yX7_isRise : MethodName := ⟨RX7, "isRise", "(I)Z"⟩
abbrev cX7_isSheet : ByteArray := prog_1_method_37_code
def yX7_isSheet : MethodName := ⟨RX7, "isSheet", "(I)Z"⟩
abbrev cX7_isLane : ByteArray := prog_1_method_38_code
def yX7_isLane : MethodName := ⟨RX7, "isLane", "(I)Z"⟩
abbrev cX7_isPart : ByteArray := prog_1_method_39_code
def yX7_isPart : MethodName := ⟨RX7, "isPart", "(I)Z"⟩
abbrev cX7_isBearing : ByteArray := prog_1_method_40_code
def yX7_isBearing : MethodName := ⟨RX7, "isBearing", "(I)Z"⟩
abbrev cX7_byteOf : ByteArray := prog_1_method_41_code
def yX7_byteOf : MethodName := ⟨RX7, "byteOf", "(JI)I"⟩
abbrev cX7_refusal : ByteArray := prog_1_method_42_code
def yX7_refusal : MethodName := ⟨RX7, "refusal", "(I)J"⟩
abbrev cX7_cut : ByteArray := prog_1_method_43_code
def yX7_cut : MethodName := ⟨RX7, "cut", "(JJ)J"⟩
abbrev cX7_commonDivisor : ByteArray := prog_1_method_44_code
def yX7_commonDivisor : MethodName := ⟨RX7, "commonDivisor", "(JJ)J"⟩
abbrev cX7_forgetAnswers : ByteArray := prog_1_method_45_code
def yX7_forgetAnswers : MethodName := ⟨RX7, "forgetAnswers", "()V"⟩
abbrev cX7_standing : ByteArray := prog_1_method_46_code
def yX7_standing : MethodName := ⟨RX7, "standing", "(II)I"⟩
abbrev cX7_putBearings : ByteArray := prog_1_method_47_code
def yX7_putBearings : MethodName := ⟨RX7, "putBearings", "(III)V"⟩
abbrev cX7_comesToRest : ByteArray := prog_1_method_48_code
def yX7_comesToRest : MethodName := ⟨RX7, "comesToRest", "(I)Z"⟩
abbrev cX7_goesThrough : ByteArray := prog_1_method_49_code
def yX7_goesThrough : MethodName := ⟨RX7, "goesThrough", "(LShaftLine$Beam;III)Z"⟩
abbrev cX7_isWithinBounds : ByteArray := prog_1_method_50_code
def yX7_isWithinBounds : MethodName := ⟨RX7, "isWithinBounds", "()Z"⟩
abbrev cX7_makePlan : ByteArray := prog_1_method_51_code
def yX7_makePlan : MethodName := ⟨RX7, "makePlan", "(I)V"⟩
def RX8 : String := "ShaftLineModel"
def TX8 : u_T := fun k => match k with
  | 0 => ("ShaftLineModel", "n", "I", false)
  | 1 => ("ShaftLineModel", "places", "[I", true)
  | 2 => ("ShaftLineModel", "offsets", "[I", true)
  | 3 => ("ShaftLineModel", "wears", "[I", true)
  | 4 => ("ShaftLineModel", "readings", "[I", true)
  | 5 => ("ShaftLineModel", "weights", "[I", true)
  | 6 => ("ShaftLineModel", "rises", "[I", true)
  | 7 => ("ShaftLineModel", "stiff", "I", false)
  | 8 => ("ShaftLineModel", "tape", "[I", true)
  | 9 => ("ShaftLineModel", "taped", "I", false)
  | 10 => ("ShaftLineModel", "at", "I", false)
  | 11 => ("ShaftLineModel", "wrong", "Z", false)
  | 12 => ("ShaftLineModel", "readMany", "I", false)
  | 13 => ("ShaftLineModel", "readPlace", "[I", true)
  | 14 => ("ShaftLineModel", "readOffset", "[I", true)
  | 15 => ("ShaftLineModel", "readWeight", "[I", true)
  | 16 => ("ShaftLineModel", "readStiff", "I", false)
  | 17 => ("ShaftLineModel", "above", "J", false)
  | 18 => ("ShaftLineModel", "below", "J", false)
  | 19 => ("ShaftLineModel", "many", "I", false)
  | 20 => ("ShaftLineModel", "xs", "[I", true)
  | 21 => ("ShaftLineModel", "hs", "[I", true)
  | 22 => ("ShaftLineModel", "pulls", "[I", true)
  | 23 => ("ShaftLineModel", "loadAbove", "[J", true)
  | 24 => ("ShaftLineModel", "loadBelow", "[J", true)
  | 25 => ("ShaftLineModel", "moments", "[J", true)
  | 26 => ("ShaftLineModel", "rights", "[J", true)
  | 27 => ("ShaftLineModel", "heads", "[J", true)
  | 28 => ("ShaftLineModel", "tails", "[J", true)
  | 29 => ("ShaftLineModel", "determinant", "J", false)
  | 30 => ("ShaftLineModel", "sumAbove", "J", false)
  | 31 => ("ShaftLineModel", "sumBelow", "J", false)
  | 32 => ("ShaftLineModel", "candidates", "I", false)
  | 33 => ("ShaftLineModel", "candidatePlace", "[I", true)
  | 34 => ("ShaftLineModel", "candidateHeight", "[I", true)
  | 35 => ("ShaftLineModel", "moves", "[I", true)
  | 36 => ("ShaftLineModel", "jackNumber", "I", false)
  | 37 => ("ShaftLineModel", "low", "I", false)
  | 38 => ("ShaftLineModel", "high", "I", false)
  | 39 => ("ShaftLineModel", "best", "[I", true)
  | 40 => ("ShaftLineModel", "lanes", "[I", true)
  | 41 => ("ShaftLineModel", "sizes", "[I", true)
  | 42 => ("ShaftLineModel", "items", "[I", true)
  | _ => ("ShaftLineModel", "moved", "[I", true)
def tyX8 : Nat → FieldType := fun k => match k with
  | 0 => .int
  | 1 => .array .int
  | 2 => .array .int
  | 3 => .array .int
  | 4 => .array .int
  | 5 => .array .int
  | 6 => .array .int
  | 7 => .int
  | 8 => .array .int
  | 9 => .int
  | 10 => .int
  | 11 => .boolean
  | 12 => .int
  | 13 => .array .int
  | 14 => .array .int
  | 15 => .array .int
  | 16 => .int
  | 17 => .long
  | 18 => .long
  | 19 => .int
  | 20 => .array .int
  | 21 => .array .int
  | 22 => .array .int
  | 23 => .array .long
  | 24 => .array .long
  | 25 => .array .long
  | 26 => .array .long
  | 27 => .array .long
  | 28 => .array .long
  | 29 => .long
  | 30 => .long
  | 31 => .long
  | 32 => .int
  | 33 => .array .int
  | 34 => .array .int
  | 35 => .array .int
  | 36 => .int
  | 37 => .int
  | 38 => .int
  | 39 => .array .int
  | 40 => .array .int
  | 41 => .array .int
  | 42 => .array .int
  | _ => .array .int
abbrev wsX80 : List Cond := u_ws RX8 TX8 44
theorem nmX8 : ∀ a, a < 44 → ∀ b, b < 44 → a ≠ b → (TX8 a).2.1 ≠ (TX8 b).2.1 := by decide +kernel
theorem tyX8_ok : ∀ k, k < 44 → parseFieldDescriptor (TX8 k).2.2.1 = some (tyX8 k) := by decide +kernel
abbrev cX8_in : ByteArray := prog_10_method_2_code
def yX8_in : MethodName := ⟨RX8, "in", "(JJJ)Z"⟩
abbrev cX8_init : ByteArray := prog_10_method_3_code
def yX8_init : MethodName := ⟨RX8, "<init>", "()V"⟩
abbrev cX8_isPlace : ByteArray := prog_10_method_4_code
def yX8_isPlace : MethodName := ⟨RX8, "isPlace", "(I)Z"⟩
abbrev cX8_isBearing : ByteArray := prog_10_method_5_code
def yX8_isBearing : MethodName := ⟨RX8, "isBearing", "(I)Z"⟩
abbrev cX8_bearingAt : ByteArray := prog_10_method_6_code
def yX8_bearingAt : MethodName := ⟨RX8, "bearingAt", "(I)I"⟩
abbrev cX8_puts : ByteArray := prog_10_method_7_code
def yX8_puts : MethodName := ⟨RX8, "puts", "(II)I"⟩
abbrev cX8_bearing : ByteArray := prog_10_method_8_code
def yX8_bearing : MethodName := ⟨RX8, "bearing", "(II)I"⟩
abbrev cX8_remove : ByteArray := prog_10_method_9_code
def yX8_remove : MethodName := ⟨RX8, "remove", "(I)I"⟩
abbrev cX8_offset : ByteArray := prog_10_method_10_code
def yX8_offset : MethodName := ⟨RX8, "offset", "(II)I"⟩
abbrev cX8_weight : ByteArray := prog_10_method_11_code
def yX8_weight : MethodName := ⟨RX8, "weight", "(II)I"⟩
abbrev cX8_stiffness : ByteArray := prog_10_method_12_code
def yX8_stiffness : MethodName := ⟨RX8, "stiffness", "(I)I"⟩
abbrev cX8_isState : ByteArray := prog_10_method_13_code
def yX8_isState : MethodName := ⟨RX8, "isState", "(I)Z"⟩
abbrev cX8_rise : ByteArray := prog_10_method_14_code
def yX8_rise : MethodName := ⟨RX8, "rise", "(III)I"⟩
abbrev cX8_rises : ByteArray := prog_10_method_15_code
def yX8_rises : MethodName := ⟨RX8, "rises", "(IIIII)I"⟩
abbrev cX8_type : ByteArray := prog_10_method_16_code
def yX8_type : MethodName := ⟨RX8, "type", "(JI)I"⟩
abbrev cX8_next : ByteArray := prog_10_method_17_code
def yX8_next : MethodName := ⟨RX8, "next", "()I"⟩
abbrev cX8_number : ByteArray := prog_10_method_18_code
def yX8_number : MethodName := ⟨RX8, "number", "(II)I"⟩
abbrev cX8_figure : ByteArray := prog_10_method_19_code
def yX8_figure : MethodName := ⟨RX8, "figure", "(Z)I"⟩
abbrev cX8_clause : ByteArray := prog_10_method_20_code
def yX8_clause : MethodName := ⟨RX8, "clause", "()V"⟩
abbrev cX8_read : ByteArray := prog_10_method_21_code
def yX8_read : MethodName := ⟨RX8, "read", "()I"⟩
abbrev cX8_told : ByteArray := prog_10_method_22_code
def yX8_told : MethodName := ⟨RX8, "told", "(II)I"⟩
abbrev cX8_allWeights : ByteArray := prog_10_method_23_code
def yX8_allWeights : MethodName := ⟨RX8, "allWeights", "()I"⟩
abbrev cX8_count : ByteArray := prog_10_method_24_code
def yX8_count : MethodName := ⟨RX8, "count", "(I)I"⟩
abbrev cX8_common : ByteArray := prog_10_method_25_code
def yX8_common : MethodName := ⟨RX8, "common", "(JJ)J"⟩
abbrev cX8_makes : ByteArray := prog_10_method_26_code
def yX8_makes : MethodName := ⟨RX8, "makes", "(JJ)V"⟩
abbrev cX8_adds : ByteArray := prog_10_method_27_code
def yX8_adds : MethodName := ⟨RX8, "adds", "(JJ)V"⟩
abbrev cX8_part : ByteArray := prog_10_method_28_code
def yX8_part : MethodName := ⟨RX8, "part", "(I)J"⟩
abbrev cX8_diagonal : ByteArray := prog_10_method_29_code
def yX8_diagonal : MethodName := ⟨RX8, "diagonal", "(I)J"⟩
abbrev cX8_side : ByteArray := prog_10_method_30_code
def yX8_side : MethodName := ⟨RX8, "side", "(I)J"⟩
abbrev cX8_right : ByteArray := prog_10_method_31_code
def yX8_right : MethodName := ⟨RX8, "right", "(I)J"⟩
abbrev cX8_hangs : ByteArray := prog_10_method_32_code
def yX8_hangs : MethodName := ⟨RX8, "hangs", "(Z)J"⟩
abbrev cX8_bends : ByteArray := prog_10_method_33_code
def yX8_bends : MethodName := ⟨RX8, "bends", "()V"⟩
abbrev cX8_pushes : ByteArray := prog_10_method_34_code
def yX8_pushes : MethodName := ⟨RX8, "pushes", "(IZJ)V"⟩
abbrev cX8_goes : ByteArray := prog_10_method_35_code
def yX8_goes : MethodName := ⟨RX8, "goes", "()V"⟩
abbrev cX8_cube : ByteArray := prog_10_method_36_code
def yX8_cube : MethodName := ⟨RX8, "cube", "(JZ)J"⟩
abbrev cX8_sums : ByteArray := prog_10_method_37_code
def yX8_sums : MethodName := ⟨RX8, "sums", "(IZ)V"⟩
abbrev cX8_tilts : ByteArray := prog_10_method_38_code
def yX8_tilts : MethodName := ⟨RX8, "tilts", "()V"⟩
abbrev cX8_height : ByteArray := prog_10_method_39_code
def yX8_height : MethodName := ⟨RX8, "height", "(I)V"⟩
abbrev cX8_slope : ByteArray := prog_10_method_40_code
def yX8_slope : MethodName := ⟨RX8, "slope", "(I)V"⟩
abbrev cX8_stands : ByteArray := prog_10_method_41_code
def yX8_stands : MethodName := ⟨RX8, "stands", "(III)V"⟩
abbrev cX8_chooses : ByteArray := prog_10_method_42_code
def yX8_chooses : MethodName := ⟨RX8, "chooses", "(I)V"⟩
abbrev cX8_size : ByteArray := prog_10_method_43_code
def yX8_size : MethodName := ⟨RX8, "size", "(I)I"⟩
abbrev cX8_lies : ByteArray := prog_10_method_44_code
def yX8_lies : MethodName := ⟨RX8, "lies", "(I)Z"⟩
abbrev cX8_isAhead : ByteArray := prog_10_method_45_code
def yX8_isAhead : MethodName := ⟨RX8, "isAhead", "(II)Z"⟩
abbrev cX8_rests : ByteArray := prog_10_method_46_code
def yX8_rests : MethodName := ⟨RX8, "rests", "()I"⟩
abbrev cX8_loadOf : ByteArray := prog_10_method_47_code
def yX8_loadOf : MethodName := ⟨RX8, "loadOf", "(II)V"⟩
abbrev cX8_load : ByteArray := prog_10_method_48_code
def yX8_load : MethodName := ⟨RX8, "load", "(III)J"⟩
abbrev cX8_lifted : ByteArray := prog_10_method_49_code
def yX8_lifted : MethodName := ⟨RX8, "lifted", "(I)I"⟩
abbrev cX8_high : ByteArray := prog_10_method_50_code
def yX8_high : MethodName := ⟨RX8, "high", "(III)J"⟩
abbrev cX8_through : ByteArray := prog_10_method_51_code
def yX8_through : MethodName := ⟨RX8, "through", "(III)J"⟩
abbrev cX8_table : ByteArray := prog_10_method_52_code
def yX8_table : MethodName := ⟨RX8, "table", "(III)J"⟩
abbrev cX8_isPart : ByteArray := prog_10_method_53_code
def yX8_isPart : MethodName := ⟨RX8, "isPart", "(IIZ)Z"⟩
abbrev cX8_endOf : ByteArray := prog_10_method_54_code
def yX8_endOf : MethodName := ⟨RX8, "endOf", "(II)V"⟩
abbrev cX8_coupling : ByteArray := prog_10_method_55_code
def yX8_coupling : MethodName := ⟨RX8, "coupling", "(IIII)J"⟩
abbrev cX8_jack : ByteArray := prog_10_method_56_code
def yX8_jack : MethodName := ⟨RX8, "jack", "(IIII)J"⟩
abbrev cX8_bounds : ByteArray := prog_10_method_57_code
def yX8_bounds : MethodName := ⟨RX8, "bounds", "(II)I"⟩
abbrev cX8_isFit : ByteArray := prog_10_method_58_code
def yX8_isFit : MethodName := ⟨RX8, "isFit", "(I)Z"⟩
abbrev cX8_fits : ByteArray := prog_10_method_59_code
def yX8_fits : MethodName := ⟨RX8, "fits", "(I)I"⟩
abbrev cX8_plans : ByteArray := prog_10_method_60_code
def yX8_plans : MethodName := ⟨RX8, "plans", "(I)I"⟩
abbrev cX8_plan : ByteArray := prog_10_method_61_code
def yX8_plan : MethodName := ⟨RX8, "plan", "(I)I"⟩
abbrev cX8_move : ByteArray := prog_10_method_62_code
def yX8_move : MethodName := ⟨RX8, "move", "(II)I"⟩
abbrev cX8_reading : ByteArray := prog_10_method_63_code
def yX8_reading : MethodName := ⟨RX8, "reading", "(II)I"⟩
abbrev cX8_lacks : ByteArray := prog_10_method_64_code
def yX8_lacks : MethodName := ⟨RX8, "lacks", "(Z)I"⟩
abbrev cX8_isWrong : ByteArray := prog_10_method_65_code
def yX8_isWrong : MethodName := ⟨RX8, "isWrong", "(I)Z"⟩
abbrev cX8_closes : ByteArray := prog_10_method_66_code
def yX8_closes : MethodName := ⟨RX8, "closes", "()I"⟩
abbrev cX8_mended : ByteArray := prog_10_method_67_code
def yX8_mended : MethodName := ⟨RX8, "mended", "(I)I"⟩
abbrev cX8_run : ByteArray := prog_10_method_68_code
def yX8_run : MethodName := ⟨RX8, "run", "(I)I"⟩
abbrev cX8_whirl : ByteArray := prog_10_method_69_code
def yX8_whirl : MethodName := ⟨RX8, "whirl", "()I"⟩
abbrev cX8_isSheet : ByteArray := prog_10_method_70_code
def yX8_isSheet : MethodName := ⟨RX8, "isSheet", "(I)Z"⟩
abbrev cX8_isLane : ByteArray := prog_10_method_71_code
def yX8_isLane : MethodName := ⟨RX8, "isLane", "(I)Z"⟩
abbrev cX8_finds : ByteArray := prog_10_method_72_code
def yX8_finds : MethodName := ⟨RX8, "finds", "(IIII)I"⟩
abbrev cX8_sheet : ByteArray := prog_10_method_73_code
def yX8_sheet : MethodName := ⟨RX8, "sheet", "(III)I"⟩
abbrev cX8_drop : ByteArray := prog_10_method_74_code
def yX8_drop : MethodName := ⟨RX8, "drop", "(I)I"⟩
abbrev cX8_item : ByteArray := prog_10_method_75_code
def yX8_item : MethodName := ⟨RX8, "item", "(IIII)I"⟩
abbrev cX8_copy : ByteArray := prog_10_method_76_code
def yX8_copy : MethodName := ⟨RX8, "copy", "(IIIII)I"⟩
def RJ6 : String := "java/lang/Integer"
def TJ6 : u_T := fun k => match k with
  | _ => ("", "", "", false)
def tyJ6 : Nat → FieldType := fun k => match k with
  | _ => .int
abbrev wsJ60 : List Cond := u_ws RJ6 TJ6 0
theorem nmJ6 : ∀ a, a < 0 → ∀ b, b < 0 → a ≠ b → (TJ6 a).2.1 ≠ (TJ6 b).2.1 := by decide +kernel
theorem tyJ6_ok : ∀ k, k < 0 → parseFieldDescriptor (TJ6 k).2.2.1 = some (tyJ6 k) := by decide +kernel
abbrev cJ6_bitCount_0f7a4 : ByteArray := prog_11_method_49_code
def yJ6_bitCount_0f7a4 : MethodName := ⟨RJ6, "bitCount", "(I)I"⟩
def RJ9 : String := "java/lang/Math"
def TJ9 : u_T := fun k => match k with
  | _ => ("", "", "", false)
def tyJ9 : Nat → FieldType := fun k => match k with
  | _ => .int
abbrev wsJ90 : List Cond := u_ws RJ9 TJ9 0
theorem nmJ9 : ∀ a, a < 0 → ∀ b, b < 0 → a ≠ b → (TJ9 a).2.1 ≠ (TJ9 b).2.1 := by decide +kernel
theorem tyJ9_ok : ∀ k, k < 0 → parseFieldDescriptor (TJ9 k).2.2.1 = some (tyJ9 k) := by decide +kernel
abbrev cJ9_abs_0f7a4 : ByteArray := prog_12_method_59_code
def yJ9_abs_0f7a4 : MethodName := ⟨RJ9, "abs", "(I)I"⟩
abbrev cJ9_abs_067f4 : ByteArray := prog_12_method_61_code
def yJ9_abs_067f4 : MethodName := ⟨RJ9, "abs", "(J)J"⟩
abbrev cJ9_max_7cf53 : ByteArray := prog_12_method_65_code
def yJ9_max_7cf53 : MethodName := ⟨RJ9, "max", "(II)I"⟩
abbrev cJ9_min_7cf53 : ByteArray := prog_12_method_69_code
def yJ9_min_7cf53 : MethodName := ⟨RJ9, "min", "(II)I"⟩
def RJ10 : String := "java/lang/System"
def TJ10 : u_T := fun k => match k with
  | _ => ("", "", "", false)
def tyJ10 : Nat → FieldType := fun k => match k with
  | _ => .int
abbrev wsJ100 : List Cond := u_ws RJ10 TJ10 0
theorem nmJ10 : ∀ a, a < 0 → ∀ b, b < 0 → a ≠ b → (TJ10 a).2.1 ≠ (TJ10 b).2.1 := by decide +kernel
theorem tyJ10_ok : ∀ k, k < 0 → parseFieldDescriptor (TJ10 k).2.2.1 = some (tyJ10 k) := by decide +kernel
def RL : String := "ShaftLineLaw"
abbrev cL_law : ByteArray := code
def yL_law : MethodName := ⟨RL, "law", "([I)Z"⟩
abbrev vwCl : List vw_C := [(RX0, TX0, 17), (RX1, TX1, 2), (RX2, TX2, 7), (RX3, TX3, 15), (RX4, TX4, 6), (RX5, TX5, 5), (RX6, TX6, 4), (RX7, TX7, 17), (RX8, TX8, 44)]
/-- the words that a method may need: those of the tables that a call keeps -/
def TW : List Cond := lw_tbl.filter goodWord
theorem TW_good : GoodIn TW TW := fun w hw => ⟨hw, good_of_word (List.mem_filter.mp hw).2⟩
theorem TW_in : ∀ w ∈ TW, w ∈ lw_tbl := fun w hw => (List.mem_filter.mp hw).1
theorem tw_0 {w : Cond} {i : Nat} (h : (k2_sels lw_privs)[i]? = some w) (hg : goodWord w = true) : w ∈ TW := List.mem_filter.mpr ⟨List.mem_append_left _ (List.mem_of_getElem? h), hg⟩
theorem tw_1 {w : Cond} {i : Nat} (h : tables_1_1[i]? = some w) (hg : goodWord w = true) : w ∈ TW := List.mem_filter.mpr ⟨List.mem_append_right _ (List.mem_append_left _ (List.mem_of_getElem? h)), hg⟩
theorem tw_2 {w : Cond} {i : Nat} (h : tables_1_2[i]? = some w) (hg : goodWord w = true) : w ∈ TW := List.mem_filter.mpr ⟨List.mem_append_right _ (List.mem_append_right _ (List.mem_append_left _ (List.mem_of_getElem? h))), hg⟩
theorem tw_3 {w : Cond} {i : Nat} (h : tables_1_3[i]? = some w) (hg : goodWord w = true) : w ∈ TW := List.mem_filter.mpr ⟨List.mem_append_right _ (List.mem_append_right _ (List.mem_append_right _ (List.mem_append_left _ (List.mem_of_getElem? h)))), hg⟩
theorem tw_4 {w : Cond} {i : Nat} (h : tables_1_4[i]? = some w) (hg : goodWord w = true) : w ∈ TW := List.mem_filter.mpr ⟨List.mem_append_right _ (List.mem_append_right _ (List.mem_append_right _ (List.mem_append_right _ (List.mem_append_left _ (List.mem_of_getElem? h))))), hg⟩
theorem tw_5 {w : Cond} {i : Nat} (h : tables_1_5[i]? = some w) (hg : goodWord w = true) : w ∈ TW := List.mem_filter.mpr ⟨List.mem_append_right _ (List.mem_append_right _ (List.mem_append_right _ (List.mem_append_right _ (List.mem_append_right _ (List.mem_append_left _ (List.mem_of_getElem? h)))))), hg⟩
theorem tw_6 {w : Cond} {i : Nat} (h : tables_1_6[i]? = some w) (hg : goodWord w = true) : w ∈ TW := List.mem_filter.mpr ⟨List.mem_append_right _ (List.mem_append_right _ (List.mem_append_right _ (List.mem_append_right _ (List.mem_append_right _ (List.mem_append_right _ (List.mem_of_getElem? h)))))), hg⟩
theorem lay_X0_0 : u_lay RX0 TX0 0 ∈ TW := tw_1 (i := 127) rfl rfl
theorem lay_X0_1 : u_lay RX0 TX0 1 ∈ TW := tw_1 (i := 129) rfl rfl
theorem lay_X0_2 : u_lay RX0 TX0 2 ∈ TW := tw_1 (i := 131) rfl rfl
theorem lay_X0_3 : u_lay RX0 TX0 3 ∈ TW := tw_1 (i := 133) rfl rfl
theorem lay_X0_4 : u_lay RX0 TX0 4 ∈ TW := tw_1 (i := 135) rfl rfl
theorem lay_X0_5 : u_lay RX0 TX0 5 ∈ TW := tw_1 (i := 137) rfl rfl
theorem lay_X0_6 : u_lay RX0 TX0 6 ∈ TW := tw_1 (i := 139) rfl rfl
theorem lay_X0_7 : u_lay RX0 TX0 7 ∈ TW := tw_1 (i := 141) rfl rfl
theorem lay_X0_8 : u_lay RX0 TX0 8 ∈ TW := tw_1 (i := 143) rfl rfl
theorem lay_X0_9 : u_lay RX0 TX0 9 ∈ TW := tw_1 (i := 145) rfl rfl
theorem lay_X0_10 : u_lay RX0 TX0 10 ∈ TW := tw_1 (i := 147) rfl rfl
theorem lay_X0_11 : u_lay RX0 TX0 11 ∈ TW := tw_1 (i := 149) rfl rfl
theorem lay_X0_12 : u_lay RX0 TX0 12 ∈ TW := tw_1 (i := 151) rfl rfl
theorem lay_X0_13 : u_lay RX0 TX0 13 ∈ TW := tw_1 (i := 153) rfl rfl
theorem lay_X0_14 : u_lay RX0 TX0 14 ∈ TW := tw_1 (i := 155) rfl rfl
theorem lay_X0_15 : u_lay RX0 TX0 15 ∈ TW := tw_1 (i := 157) rfl rfl
theorem lay_X0_16 : u_lay RX0 TX0 16 ∈ TW := tw_1 (i := 159) rfl rfl
theorem inlX0 : ∀ w ∈ wsX00, w ∈ TW := by
  intro w hw
  obtain ⟨k, hk, rfl⟩ := List.mem_map.mp hw
  have hk := List.mem_range.mp hk
  match k, hk with
  | 0, _ => exact lay_X0_0
  | 1, _ => exact lay_X0_1
  | 2, _ => exact lay_X0_2
  | 3, _ => exact lay_X0_3
  | 4, _ => exact lay_X0_4
  | 5, _ => exact lay_X0_5
  | 6, _ => exact lay_X0_6
  | 7, _ => exact lay_X0_7
  | 8, _ => exact lay_X0_8
  | 9, _ => exact lay_X0_9
  | 10, _ => exact lay_X0_10
  | 11, _ => exact lay_X0_11
  | 12, _ => exact lay_X0_12
  | 13, _ => exact lay_X0_13
  | 14, _ => exact lay_X0_14
  | 15, _ => exact lay_X0_15
  | 16, _ => exact lay_X0_16
  | k + 17, h => exact absurd h (by omega)
theorem lay_X1_0 : u_lay RX1 TX1 0 ∈ TW := tw_2 (i := 11) rfl rfl
theorem lay_X1_1 : u_lay RX1 TX1 1 ∈ TW := tw_2 (i := 13) rfl rfl
theorem inlX1 : ∀ w ∈ wsX10, w ∈ TW := by
  intro w hw
  obtain ⟨k, hk, rfl⟩ := List.mem_map.mp hw
  have hk := List.mem_range.mp hk
  match k, hk with
  | 0, _ => exact lay_X1_0
  | 1, _ => exact lay_X1_1
  | k + 2, h => exact absurd h (by omega)
theorem lay_X2_0 : u_lay RX2 TX2 0 ∈ TW := tw_1 (i := 49) rfl rfl
theorem lay_X2_1 : u_lay RX2 TX2 1 ∈ TW := tw_1 (i := 51) rfl rfl
theorem lay_X2_2 : u_lay RX2 TX2 2 ∈ TW := tw_1 (i := 53) rfl rfl
theorem lay_X2_3 : u_lay RX2 TX2 3 ∈ TW := tw_1 (i := 55) rfl rfl
theorem lay_X2_4 : u_lay RX2 TX2 4 ∈ TW := tw_1 (i := 57) rfl rfl
theorem lay_X2_5 : u_lay RX2 TX2 5 ∈ TW := tw_1 (i := 59) rfl rfl
theorem lay_X2_6 : u_lay RX2 TX2 6 ∈ TW := tw_1 (i := 61) rfl rfl
theorem inlX2 : ∀ w ∈ wsX20, w ∈ TW := by
  intro w hw
  obtain ⟨k, hk, rfl⟩ := List.mem_map.mp hw
  have hk := List.mem_range.mp hk
  match k, hk with
  | 0, _ => exact lay_X2_0
  | 1, _ => exact lay_X2_1
  | 2, _ => exact lay_X2_2
  | 3, _ => exact lay_X2_3
  | 4, _ => exact lay_X2_4
  | 5, _ => exact lay_X2_5
  | 6, _ => exact lay_X2_6
  | k + 7, h => exact absurd h (by omega)
theorem lay_X3_0 : u_lay RX3 TX3 0 ∈ TW := tw_1 (i := 212) rfl rfl
theorem lay_X3_1 : u_lay RX3 TX3 1 ∈ TW := tw_1 (i := 214) rfl rfl
theorem lay_X3_2 : u_lay RX3 TX3 2 ∈ TW := tw_1 (i := 216) rfl rfl
theorem lay_X3_3 : u_lay RX3 TX3 3 ∈ TW := tw_1 (i := 218) rfl rfl
theorem lay_X3_4 : u_lay RX3 TX3 4 ∈ TW := tw_1 (i := 220) rfl rfl
theorem lay_X3_5 : u_lay RX3 TX3 5 ∈ TW := tw_1 (i := 222) rfl rfl
theorem lay_X3_6 : u_lay RX3 TX3 6 ∈ TW := tw_1 (i := 224) rfl rfl
theorem lay_X3_7 : u_lay RX3 TX3 7 ∈ TW := tw_1 (i := 226) rfl rfl
theorem lay_X3_8 : u_lay RX3 TX3 8 ∈ TW := tw_1 (i := 228) rfl rfl
theorem lay_X3_9 : u_lay RX3 TX3 9 ∈ TW := tw_1 (i := 230) rfl rfl
theorem lay_X3_10 : u_lay RX3 TX3 10 ∈ TW := tw_1 (i := 232) rfl rfl
theorem lay_X3_11 : u_lay RX3 TX3 11 ∈ TW := tw_1 (i := 234) rfl rfl
theorem lay_X3_12 : u_lay RX3 TX3 12 ∈ TW := tw_1 (i := 236) rfl rfl
theorem lay_X3_13 : u_lay RX3 TX3 13 ∈ TW := tw_1 (i := 238) rfl rfl
theorem lay_X3_14 : u_lay RX3 TX3 14 ∈ TW := tw_2 (i := 0) rfl rfl
theorem inlX3 : ∀ w ∈ wsX30, w ∈ TW := by
  intro w hw
  obtain ⟨k, hk, rfl⟩ := List.mem_map.mp hw
  have hk := List.mem_range.mp hk
  match k, hk with
  | 0, _ => exact lay_X3_0
  | 1, _ => exact lay_X3_1
  | 2, _ => exact lay_X3_2
  | 3, _ => exact lay_X3_3
  | 4, _ => exact lay_X3_4
  | 5, _ => exact lay_X3_5
  | 6, _ => exact lay_X3_6
  | 7, _ => exact lay_X3_7
  | 8, _ => exact lay_X3_8
  | 9, _ => exact lay_X3_9
  | 10, _ => exact lay_X3_10
  | 11, _ => exact lay_X3_11
  | 12, _ => exact lay_X3_12
  | 13, _ => exact lay_X3_13
  | 14, _ => exact lay_X3_14
  | k + 15, h => exact absurd h (by omega)
theorem lay_X4_0 : u_lay RX4 TX4 0 ∈ TW := tw_1 (i := 82) rfl rfl
theorem lay_X4_1 : u_lay RX4 TX4 1 ∈ TW := tw_1 (i := 84) rfl rfl
theorem lay_X4_2 : u_lay RX4 TX4 2 ∈ TW := tw_1 (i := 86) rfl rfl
theorem lay_X4_3 : u_lay RX4 TX4 3 ∈ TW := tw_1 (i := 88) rfl rfl
theorem lay_X4_4 : u_lay RX4 TX4 4 ∈ TW := tw_1 (i := 90) rfl rfl
theorem lay_X4_5 : u_lay RX4 TX4 5 ∈ TW := tw_1 (i := 92) rfl rfl
theorem inlX4 : ∀ w ∈ wsX40, w ∈ TW := by
  intro w hw
  obtain ⟨k, hk, rfl⟩ := List.mem_map.mp hw
  have hk := List.mem_range.mp hk
  match k, hk with
  | 0, _ => exact lay_X4_0
  | 1, _ => exact lay_X4_1
  | 2, _ => exact lay_X4_2
  | 3, _ => exact lay_X4_3
  | 4, _ => exact lay_X4_4
  | 5, _ => exact lay_X4_5
  | k + 6, h => exact absurd h (by omega)
theorem lay_X5_0 : u_lay RX5 TX5 0 ∈ TW := tw_1 (i := 178) rfl rfl
theorem lay_X5_1 : u_lay RX5 TX5 1 ∈ TW := tw_1 (i := 180) rfl rfl
theorem lay_X5_2 : u_lay RX5 TX5 2 ∈ TW := tw_1 (i := 182) rfl rfl
theorem lay_X5_3 : u_lay RX5 TX5 3 ∈ TW := tw_1 (i := 184) rfl rfl
theorem lay_X5_4 : u_lay RX5 TX5 4 ∈ TW := tw_1 (i := 186) rfl rfl
theorem inlX5 : ∀ w ∈ wsX50, w ∈ TW := by
  intro w hw
  obtain ⟨k, hk, rfl⟩ := List.mem_map.mp hw
  have hk := List.mem_range.mp hk
  match k, hk with
  | 0, _ => exact lay_X5_0
  | 1, _ => exact lay_X5_1
  | 2, _ => exact lay_X5_2
  | 3, _ => exact lay_X5_3
  | 4, _ => exact lay_X5_4
  | k + 5, h => exact absurd h (by omega)
theorem lay_X6_0 : u_lay RX6 TX6 0 ∈ TW := tw_2 (i := 29) rfl rfl
theorem lay_X6_1 : u_lay RX6 TX6 1 ∈ TW := tw_2 (i := 31) rfl rfl
theorem lay_X6_2 : u_lay RX6 TX6 2 ∈ TW := tw_2 (i := 33) rfl rfl
theorem lay_X6_3 : u_lay RX6 TX6 3 ∈ TW := tw_2 (i := 35) rfl rfl
theorem inlX6 : ∀ w ∈ wsX60, w ∈ TW := by
  intro w hw
  obtain ⟨k, hk, rfl⟩ := List.mem_map.mp hw
  have hk := List.mem_range.mp hk
  match k, hk with
  | 0, _ => exact lay_X6_0
  | 1, _ => exact lay_X6_1
  | 2, _ => exact lay_X6_2
  | 3, _ => exact lay_X6_3
  | k + 4, h => exact absurd h (by omega)
theorem lay_X7_0 : u_lay RX7 TX7 0 ∈ TW := tw_2 (i := 55) rfl rfl
theorem lay_X7_1 : u_lay RX7 TX7 1 ∈ TW := tw_2 (i := 57) rfl rfl
theorem lay_X7_2 : u_lay RX7 TX7 2 ∈ TW := tw_2 (i := 59) rfl rfl
theorem lay_X7_3 : u_lay RX7 TX7 3 ∈ TW := tw_2 (i := 61) rfl rfl
theorem lay_X7_4 : u_lay RX7 TX7 4 ∈ TW := tw_2 (i := 63) rfl rfl
theorem lay_X7_5 : u_lay RX7 TX7 5 ∈ TW := tw_2 (i := 65) rfl rfl
theorem lay_X7_6 : u_lay RX7 TX7 6 ∈ TW := tw_2 (i := 67) rfl rfl
theorem lay_X7_7 : u_lay RX7 TX7 7 ∈ TW := tw_2 (i := 69) rfl rfl
theorem lay_X7_8 : u_lay RX7 TX7 8 ∈ TW := tw_2 (i := 71) rfl rfl
theorem lay_X7_9 : u_lay RX7 TX7 9 ∈ TW := tw_2 (i := 73) rfl rfl
theorem lay_X7_10 : u_lay RX7 TX7 10 ∈ TW := tw_2 (i := 75) rfl rfl
theorem lay_X7_11 : u_lay RX7 TX7 11 ∈ TW := tw_2 (i := 77) rfl rfl
theorem lay_X7_12 : u_lay RX7 TX7 12 ∈ TW := tw_2 (i := 79) rfl rfl
theorem lay_X7_13 : u_lay RX7 TX7 13 ∈ TW := tw_2 (i := 81) rfl rfl
theorem lay_X7_14 : u_lay RX7 TX7 14 ∈ TW := tw_2 (i := 83) rfl rfl
theorem lay_X7_15 : u_lay RX7 TX7 15 ∈ TW := tw_2 (i := 85) rfl rfl
theorem lay_X7_16 : u_lay RX7 TX7 16 ∈ TW := tw_2 (i := 87) rfl rfl
theorem inlX7 : ∀ w ∈ wsX70, w ∈ TW := by
  intro w hw
  obtain ⟨k, hk, rfl⟩ := List.mem_map.mp hw
  have hk := List.mem_range.mp hk
  match k, hk with
  | 0, _ => exact lay_X7_0
  | 1, _ => exact lay_X7_1
  | 2, _ => exact lay_X7_2
  | 3, _ => exact lay_X7_3
  | 4, _ => exact lay_X7_4
  | 5, _ => exact lay_X7_5
  | 6, _ => exact lay_X7_6
  | 7, _ => exact lay_X7_7
  | 8, _ => exact lay_X7_8
  | 9, _ => exact lay_X7_9
  | 10, _ => exact lay_X7_10
  | 11, _ => exact lay_X7_11
  | 12, _ => exact lay_X7_12
  | 13, _ => exact lay_X7_13
  | 14, _ => exact lay_X7_14
  | 15, _ => exact lay_X7_15
  | 16, _ => exact lay_X7_16
  | k + 17, h => exact absurd h (by omega)
theorem lay_X8_0 : u_lay RX8 TX8 0 ∈ TW := tw_4 (i := 176) rfl rfl
theorem lay_X8_1 : u_lay RX8 TX8 1 ∈ TW := tw_4 (i := 178) rfl rfl
theorem lay_X8_2 : u_lay RX8 TX8 2 ∈ TW := tw_4 (i := 180) rfl rfl
theorem lay_X8_3 : u_lay RX8 TX8 3 ∈ TW := tw_4 (i := 182) rfl rfl
theorem lay_X8_4 : u_lay RX8 TX8 4 ∈ TW := tw_4 (i := 184) rfl rfl
theorem lay_X8_5 : u_lay RX8 TX8 5 ∈ TW := tw_4 (i := 186) rfl rfl
theorem lay_X8_6 : u_lay RX8 TX8 6 ∈ TW := tw_4 (i := 188) rfl rfl
theorem lay_X8_7 : u_lay RX8 TX8 7 ∈ TW := tw_4 (i := 190) rfl rfl
theorem lay_X8_8 : u_lay RX8 TX8 8 ∈ TW := tw_4 (i := 192) rfl rfl
theorem lay_X8_9 : u_lay RX8 TX8 9 ∈ TW := tw_4 (i := 194) rfl rfl
theorem lay_X8_10 : u_lay RX8 TX8 10 ∈ TW := tw_4 (i := 196) rfl rfl
theorem lay_X8_11 : u_lay RX8 TX8 11 ∈ TW := tw_4 (i := 198) rfl rfl
theorem lay_X8_12 : u_lay RX8 TX8 12 ∈ TW := tw_4 (i := 200) rfl rfl
theorem lay_X8_13 : u_lay RX8 TX8 13 ∈ TW := tw_4 (i := 202) rfl rfl
theorem lay_X8_14 : u_lay RX8 TX8 14 ∈ TW := tw_4 (i := 204) rfl rfl
theorem lay_X8_15 : u_lay RX8 TX8 15 ∈ TW := tw_4 (i := 206) rfl rfl
theorem lay_X8_16 : u_lay RX8 TX8 16 ∈ TW := tw_4 (i := 208) rfl rfl
theorem lay_X8_17 : u_lay RX8 TX8 17 ∈ TW := tw_4 (i := 210) rfl rfl
theorem lay_X8_18 : u_lay RX8 TX8 18 ∈ TW := tw_4 (i := 212) rfl rfl
theorem lay_X8_19 : u_lay RX8 TX8 19 ∈ TW := tw_4 (i := 214) rfl rfl
theorem lay_X8_20 : u_lay RX8 TX8 20 ∈ TW := tw_4 (i := 216) rfl rfl
theorem lay_X8_21 : u_lay RX8 TX8 21 ∈ TW := tw_4 (i := 218) rfl rfl
theorem lay_X8_22 : u_lay RX8 TX8 22 ∈ TW := tw_4 (i := 220) rfl rfl
theorem lay_X8_23 : u_lay RX8 TX8 23 ∈ TW := tw_4 (i := 222) rfl rfl
theorem lay_X8_24 : u_lay RX8 TX8 24 ∈ TW := tw_4 (i := 224) rfl rfl
theorem lay_X8_25 : u_lay RX8 TX8 25 ∈ TW := tw_4 (i := 226) rfl rfl
theorem lay_X8_26 : u_lay RX8 TX8 26 ∈ TW := tw_4 (i := 228) rfl rfl
theorem lay_X8_27 : u_lay RX8 TX8 27 ∈ TW := tw_4 (i := 230) rfl rfl
theorem lay_X8_28 : u_lay RX8 TX8 28 ∈ TW := tw_4 (i := 232) rfl rfl
theorem lay_X8_29 : u_lay RX8 TX8 29 ∈ TW := tw_4 (i := 234) rfl rfl
theorem lay_X8_30 : u_lay RX8 TX8 30 ∈ TW := tw_4 (i := 236) rfl rfl
theorem lay_X8_31 : u_lay RX8 TX8 31 ∈ TW := tw_4 (i := 238) rfl rfl
theorem lay_X8_32 : u_lay RX8 TX8 32 ∈ TW := tw_5 (i := 0) rfl rfl
theorem lay_X8_33 : u_lay RX8 TX8 33 ∈ TW := tw_5 (i := 2) rfl rfl
theorem lay_X8_34 : u_lay RX8 TX8 34 ∈ TW := tw_5 (i := 4) rfl rfl
theorem lay_X8_35 : u_lay RX8 TX8 35 ∈ TW := tw_5 (i := 6) rfl rfl
theorem lay_X8_36 : u_lay RX8 TX8 36 ∈ TW := tw_5 (i := 8) rfl rfl
theorem lay_X8_37 : u_lay RX8 TX8 37 ∈ TW := tw_5 (i := 10) rfl rfl
theorem lay_X8_38 : u_lay RX8 TX8 38 ∈ TW := tw_5 (i := 12) rfl rfl
theorem lay_X8_39 : u_lay RX8 TX8 39 ∈ TW := tw_5 (i := 14) rfl rfl
theorem lay_X8_40 : u_lay RX8 TX8 40 ∈ TW := tw_5 (i := 16) rfl rfl
theorem lay_X8_41 : u_lay RX8 TX8 41 ∈ TW := tw_5 (i := 18) rfl rfl
theorem lay_X8_42 : u_lay RX8 TX8 42 ∈ TW := tw_5 (i := 20) rfl rfl
theorem lay_X8_43 : u_lay RX8 TX8 43 ∈ TW := tw_5 (i := 22) rfl rfl
theorem inlX8 : ∀ w ∈ wsX80, w ∈ TW := by
  intro w hw
  obtain ⟨k, hk, rfl⟩ := List.mem_map.mp hw
  have hk := List.mem_range.mp hk
  match k, hk with
  | 0, _ => exact lay_X8_0
  | 1, _ => exact lay_X8_1
  | 2, _ => exact lay_X8_2
  | 3, _ => exact lay_X8_3
  | 4, _ => exact lay_X8_4
  | 5, _ => exact lay_X8_5
  | 6, _ => exact lay_X8_6
  | 7, _ => exact lay_X8_7
  | 8, _ => exact lay_X8_8
  | 9, _ => exact lay_X8_9
  | 10, _ => exact lay_X8_10
  | 11, _ => exact lay_X8_11
  | 12, _ => exact lay_X8_12
  | 13, _ => exact lay_X8_13
  | 14, _ => exact lay_X8_14
  | 15, _ => exact lay_X8_15
  | 16, _ => exact lay_X8_16
  | 17, _ => exact lay_X8_17
  | 18, _ => exact lay_X8_18
  | 19, _ => exact lay_X8_19
  | 20, _ => exact lay_X8_20
  | 21, _ => exact lay_X8_21
  | 22, _ => exact lay_X8_22
  | 23, _ => exact lay_X8_23
  | 24, _ => exact lay_X8_24
  | 25, _ => exact lay_X8_25
  | 26, _ => exact lay_X8_26
  | 27, _ => exact lay_X8_27
  | 28, _ => exact lay_X8_28
  | 29, _ => exact lay_X8_29
  | 30, _ => exact lay_X8_30
  | 31, _ => exact lay_X8_31
  | 32, _ => exact lay_X8_32
  | 33, _ => exact lay_X8_33
  | 34, _ => exact lay_X8_34
  | 35, _ => exact lay_X8_35
  | 36, _ => exact lay_X8_36
  | 37, _ => exact lay_X8_37
  | 38, _ => exact lay_X8_38
  | 39, _ => exact lay_X8_39
  | 40, _ => exact lay_X8_40
  | 41, _ => exact lay_X8_41
  | 42, _ => exact lay_X8_42
  | 43, _ => exact lay_X8_43
  | k + 44, h => exact absurd h (by omega)
theorem cl_RL_7 : Cond.classLink RL 7 RX7 ∈ TW := tw_1 (i := 13) rfl rfl
theorem ins_RX7 : Cond.instantiable RX7 17 ∈ TW := tw_1 (i := 14) rfl rfl
theorem ini_RX7 : Cond.initialized RX7 ∈ TW := tw_1 (i := 1) rfl rfl
theorem cl_RL_10 : Cond.classLink RL 10 RX8 ∈ TW := tw_4 (i := 126) rfl rfl
theorem ins_RX8 : Cond.instantiable RX8 44 ∈ TW := tw_4 (i := 127) rfl rfl
theorem ini_RX8 : Cond.initialized RX8 ∈ TW := tw_1 (i := 9) rfl rfl
theorem ck_RL_45 : Cond.constantLong RL 45 (4294967295) ∈ TW := tw_6 (i := 100) rfl rfl
theorem ml_RL_9 : Cond.methodLink RL 9 yX7_init ∈ TW := tw_1 (i := 15) rfl rfl
theorem im_yX7_init : Cond.instanceMethod yX7_init ∈ TW := tw_1 (i := 16) rfl rfl
theorem co_yX7_init : Cond.code yX7_init cX7_init 2 none ∈ TW := tw_1 (i := 17) rfl rfl
theorem ml_RX7_3 : Cond.methodLink RX7 3 objectInit ∈ TW := tw_1 (i := 18) rfl rfl
theorem im_objectInit : Cond.instanceMethod objectInit ∈ TW := tw_1 (i := 19) rfl rfl
theorem co_objectInit : Cond.code objectInit ⟨#[0xb1]⟩ 1 none ∈ TW := tw_1 (i := 20) rfl rfl
theorem cl_RX7_9 : Cond.classLink RX7 9 RX2 ∈ TW := tw_1 (i := 21) rfl rfl
theorem ins_RX2 : Cond.instantiable RX2 7 ∈ TW := tw_1 (i := 22) rfl rfl
theorem ini_RX2 : Cond.initialized RX2 ∈ TW := tw_1 (i := 2) rfl rfl
theorem fl_RX7_12 : Cond.fieldLink RX7 12 "ShaftLine" "line" "LShaftLine$Line;" ∈ TW := tw_2 (i := 38) rfl rfl
theorem cl_RX7_16 : Cond.classLink RX7 16 "[[I" ∈ TW := tw_1 (i := 65) rfl rfl
theorem ac_int : Cond.arrayClass .int ∈ TW := tw_1 (i := 64) rfl rfl
theorem fl_RX7_18 : Cond.fieldLink RX7 18 "ShaftLine" "rises" "[[I" ∈ TW := tw_2 (i := 39) rfl rfl
theorem ac_byte : Cond.arrayClass .byte ∈ TW := tw_1 (i := 95) rfl rfl
theorem fl_RX7_21 : Cond.fieldLink RX7 21 "ShaftLine" "tape" "[B" ∈ TW := tw_2 (i := 40) rfl rfl
theorem fl_RX7_25 : Cond.fieldLink RX7 25 "ShaftLine" "taped" "I" ∈ TW := tw_2 (i := 41) rfl rfl
theorem cl_RX7_29 : Cond.classLink RX7 29 RX4 ∈ TW := tw_1 (i := 67) rfl rfl
theorem ins_RX4 : Cond.instantiable RX4 6 ∈ TW := tw_1 (i := 68) rfl rfl
theorem ini_RX4 : Cond.initialized RX4 ∈ TW := tw_1 (i := 3) rfl rfl
theorem fl_RX7_32 : Cond.fieldLink RX7 32 "ShaftLine" "reader" "LShaftLine$Reader;" ∈ TW := tw_2 (i := 42) rfl rfl
theorem cl_RX7_36 : Cond.classLink RX7 36 RX6 ∈ TW := tw_1 (i := 96) rfl rfl
theorem fl_RX7_38 : Cond.fieldLink RX7 38 "ShaftLine" "sheets" "[LShaftLine$Sheet;" ∈ TW := tw_2 (i := 43) rfl rfl
theorem cl_RX7_42 : Cond.classLink RX7 42 RX0 ∈ TW := tw_1 (i := 98) rfl rfl
theorem ins_RX0 : Cond.instantiable RX0 17 ∈ TW := tw_1 (i := 99) rfl rfl
theorem ini_RX0 : Cond.initialized RX0 ∈ TW := tw_1 (i := 4) rfl rfl
theorem fl_RX7_45 : Cond.fieldLink RX7 45 "ShaftLine" "beam" "LShaftLine$Beam;" ∈ TW := tw_2 (i := 44) rfl rfl
theorem fl_RX7_49 : Cond.fieldLink RX7 49 "ShaftLine" "rightBeam" "LShaftLine$Beam;" ∈ TW := tw_2 (i := 45) rfl rfl
theorem cl_RX7_52 : Cond.classLink RX7 52 RX5 ∈ TW := tw_1 (i := 163) rfl rfl
theorem ins_RX5 : Cond.instantiable RX5 5 ∈ TW := tw_1 (i := 164) rfl rfl
theorem ini_RX5 : Cond.initialized RX5 ∈ TW := tw_1 (i := 5) rfl rfl
theorem fl_RX7_55 : Cond.fieldLink RX7 55 "ShaftLine" "rest" "LShaftLine$Rest;" ∈ TW := tw_2 (i := 46) rfl rfl
theorem fl_RX7_59 : Cond.fieldLink RX7 59 "ShaftLine" "restState" "I" ∈ TW := tw_2 (i := 47) rfl rfl
theorem fl_RX7_62 : Cond.fieldLink RX7 62 "ShaftLine" "restFalls" "Z" ∈ TW := tw_2 (i := 48) rfl rfl
theorem fl_RX7_66 : Cond.fieldLink RX7 66 "ShaftLine" "low" "I" ∈ TW := tw_2 (i := 49) rfl rfl
theorem fl_RX7_69 : Cond.fieldLink RX7 69 "ShaftLine" "high" "I" ∈ TW := tw_2 (i := 50) rfl rfl
theorem cl_RX7_72 : Cond.classLink RX7 72 RX3 ∈ TW := tw_1 (i := 189) rfl rfl
theorem ins_RX3 : Cond.instantiable RX3 15 ∈ TW := tw_1 (i := 190) rfl rfl
theorem ini_RX3 : Cond.initialized RX3 ∈ TW := tw_1 (i := 6) rfl rfl
theorem fl_RX7_75 : Cond.fieldLink RX7 75 "ShaftLine" "planner" "LShaftLine$Planner;" ∈ TW := tw_2 (i := 51) rfl rfl
theorem fl_RX7_79 : Cond.fieldLink RX7 79 "ShaftLine" "plannedStates" "I" ∈ TW := tw_2 (i := 52) rfl rfl
theorem cl_RX7_82 : Cond.classLink RX7 82 RX1 ∈ TW := tw_2 (i := 3) rfl rfl
theorem ins_RX1 : Cond.instantiable RX1 2 ∈ TW := tw_2 (i := 4) rfl rfl
theorem ini_RX1 : Cond.initialized RX1 ∈ TW := tw_1 (i := 7) rfl rfl
theorem fl_RX7_85 : Cond.fieldLink RX7 85 "ShaftLine" "answer" "LShaftLine$Fraction;" ∈ TW := tw_2 (i := 53) rfl rfl
theorem fl_RX7_89 : Cond.fieldLink RX7 89 "ShaftLine" "rightAnswer" "LShaftLine$Fraction;" ∈ TW := tw_2 (i := 54) rfl rfl
theorem ins_RX6 : Cond.instantiable RX6 4 ∈ TW := tw_2 (i := 16) rfl rfl
theorem ini_RX6 : Cond.initialized RX6 ∈ TW := tw_1 (i := 8) rfl rfl
theorem im_yX2_init : Cond.instanceMethod yX2_init ∈ TW := tw_1 (i := 24) rfl rfl
theorem co_yX2_init : Cond.code yX2_init cX2_init 1 none ∈ TW := tw_1 (i := 25) rfl rfl
theorem ml_RX2_3 : Cond.methodLink RX2 3 objectInit ∈ TW := tw_1 (i := 26) rfl rfl
theorem fl_RX2_9 : Cond.fieldLink RX2 9 "ShaftLine$Line" "count" "I" ∈ TW := tw_1 (i := 27) rfl rfl
theorem fl_RX2_15 : Cond.fieldLink RX2 15 "ShaftLine$Line" "place" "[I" ∈ TW := tw_1 (i := 31) rfl rfl
theorem fl_RX2_19 : Cond.fieldLink RX2 19 "ShaftLine$Line" "offset" "[I" ∈ TW := tw_1 (i := 34) rfl rfl
theorem fl_RX2_22 : Cond.fieldLink RX2 22 "ShaftLine$Line" "wear" "[I" ∈ TW := tw_1 (i := 37) rfl rfl
theorem fl_RX2_25 : Cond.fieldLink RX2 25 "ShaftLine$Line" "reading" "[I" ∈ TW := tw_1 (i := 39) rfl rfl
theorem fl_RX2_28 : Cond.fieldLink RX2 28 "ShaftLine$Line" "weight" "[I" ∈ TW := tw_1 (i := 41) rfl rfl
theorem fl_RX2_31 : Cond.fieldLink RX2 31 "ShaftLine$Line" "stiffness" "I" ∈ TW := tw_1 (i := 45) rfl rfl
theorem im_yX4_init : Cond.instanceMethod yX4_init ∈ TW := tw_1 (i := 70) rfl rfl
theorem co_yX4_init : Cond.code yX4_init cX4_init 1 none ∈ TW := tw_1 (i := 71) rfl rfl
theorem ml_RX4_3 : Cond.methodLink RX4 3 objectInit ∈ TW := tw_1 (i := 72) rfl rfl
theorem cl_RX4_9 : Cond.classLink RX4 9 RX2 ∈ TW := tw_1 (i := 73) rfl rfl
theorem fl_RX4_12 : Cond.fieldLink RX4 12 "ShaftLine$Reader" "draft" "LShaftLine$Line;" ∈ TW := tw_1 (i := 75) rfl rfl
theorem fl_RX4_18 : Cond.fieldLink RX4 18 "ShaftLine$Reader" "text" "[B" ∈ TW := tw_1 (i := 77) rfl rfl
theorem fl_RX4_22 : Cond.fieldLink RX4 22 "ShaftLine$Reader" "length" "I" ∈ TW := tw_1 (i := 78) rfl rfl
theorem fl_RX4_26 : Cond.fieldLink RX4 26 "ShaftLine$Reader" "at" "I" ∈ TW := tw_1 (i := 79) rfl rfl
theorem fl_RX4_29 : Cond.fieldLink RX4 29 "ShaftLine$Reader" "numberAt" "I" ∈ TW := tw_1 (i := 80) rfl rfl
theorem fl_RX4_32 : Cond.fieldLink RX4 32 "ShaftLine$Reader" "fault" "I" ∈ TW := tw_1 (i := 81) rfl rfl
theorem im_yX0_init : Cond.instanceMethod yX0_init ∈ TW := tw_1 (i := 101) rfl rfl
theorem co_yX0_init : Cond.code yX0_init cX0_init 1 none ∈ TW := tw_1 (i := 102) rfl rfl
theorem ml_RX0_3 : Cond.methodLink RX0 3 objectInit ∈ TW := tw_1 (i := 103) rfl rfl
theorem fl_RX0_9 : Cond.fieldLink RX0 9 "ShaftLine$Beam" "count" "I" ∈ TW := tw_1 (i := 104) rfl rfl
theorem fl_RX0_15 : Cond.fieldLink RX0 15 "ShaftLine$Beam" "place" "[I" ∈ TW := tw_1 (i := 107) rfl rfl
theorem fl_RX0_19 : Cond.fieldLink RX0 19 "ShaftLine$Beam" "stand" "[I" ∈ TW := tw_1 (i := 108) rfl rfl
theorem ac_long : Cond.arrayClass .long ∈ TW := tw_1 (i := 162) rfl rfl
theorem fl_RX0_22 : Cond.fieldLink RX0 22 "ShaftLine$Beam" "push" "[J" ∈ TW := tw_1 (i := 109) rfl rfl
theorem fl_RX0_26 : Cond.fieldLink RX0 26 "ShaftLine$Beam" "below" "J" ∈ TW := tw_1 (i := 112) rfl rfl
theorem fl_RX0_30 : Cond.fieldLink RX0 30 "ShaftLine$Beam" "stiff" "J" ∈ TW := tw_1 (i := 115) rfl rfl
theorem fl_RX0_33 : Cond.fieldLink RX0 33 "ShaftLine$Beam" "wide" "J" ∈ TW := tw_1 (i := 116) rfl rfl
theorem fl_RX0_36 : Cond.fieldLink RX0 36 "ShaftLine$Beam" "all" "J" ∈ TW := tw_1 (i := 117) rfl rfl
theorem fl_RX0_39 : Cond.fieldLink RX0 39 "ShaftLine$Beam" "moment" "J" ∈ TW := tw_1 (i := 118) rfl rfl
theorem fl_RX0_42 : Cond.fieldLink RX0 42 "ShaftLine$Beam" "squares" "[J" ∈ TW := tw_1 (i := 119) rfl rfl
theorem fl_RX0_45 : Cond.fieldLink RX0 45 "ShaftLine$Beam" "cubes" "[J" ∈ TW := tw_1 (i := 120) rfl rfl
theorem fl_RX0_48 : Cond.fieldLink RX0 48 "ShaftLine$Beam" "span" "[J" ∈ TW := tw_1 (i := 121) rfl rfl
theorem fl_RX0_51 : Cond.fieldLink RX0 51 "ShaftLine$Beam" "lack" "[J" ∈ TW := tw_1 (i := 122) rfl rfl
theorem fl_RX0_54 : Cond.fieldLink RX0 54 "ShaftLine$Beam" "turn" "[J" ∈ TW := tw_1 (i := 123) rfl rfl
theorem fl_RX0_57 : Cond.fieldLink RX0 57 "ShaftLine$Beam" "bend" "[J" ∈ TW := tw_1 (i := 124) rfl rfl
theorem fl_RX0_60 : Cond.fieldLink RX0 60 "ShaftLine$Beam" "ahead" "[J" ∈ TW := tw_1 (i := 125) rfl rfl
theorem fl_RX0_63 : Cond.fieldLink RX0 63 "ShaftLine$Beam" "behind" "[J" ∈ TW := tw_1 (i := 126) rfl rfl
theorem im_yX5_init : Cond.instanceMethod yX5_init ∈ TW := tw_1 (i := 166) rfl rfl
theorem co_yX5_init : Cond.code yX5_init cX5_init 1 none ∈ TW := tw_1 (i := 167) rfl rfl
theorem ml_RX5_3 : Cond.methodLink RX5 3 objectInit ∈ TW := tw_1 (i := 168) rfl rfl
theorem cl_RX5_9 : Cond.classLink RX5 9 RX0 ∈ TW := tw_1 (i := 169) rfl rfl
theorem fl_RX5_12 : Cond.fieldLink RX5 12 "ShaftLine$Rest" "beam" "LShaftLine$Beam;" ∈ TW := tw_1 (i := 171) rfl rfl
theorem fl_RX5_18 : Cond.fieldLink RX5 18 "ShaftLine$Rest" "count" "I" ∈ TW := tw_1 (i := 174) rfl rfl
theorem fl_RX5_22 : Cond.fieldLink RX5 22 "ShaftLine$Rest" "place" "[I" ∈ TW := tw_1 (i := 175) rfl rfl
theorem fl_RX5_26 : Cond.fieldLink RX5 26 "ShaftLine$Rest" "stand" "[I" ∈ TW := tw_1 (i := 176) rfl rfl
theorem fl_RX5_29 : Cond.fieldLink RX5 29 "ShaftLine$Rest" "seat" "[I" ∈ TW := tw_1 (i := 177) rfl rfl
theorem im_yX3_init : Cond.instanceMethod yX3_init ∈ TW := tw_1 (i := 192) rfl rfl
theorem co_yX3_init : Cond.code yX3_init cX3_init 1 none ∈ TW := tw_1 (i := 193) rfl rfl
theorem ml_RX3_3 : Cond.methodLink RX3 3 objectInit ∈ TW := tw_1 (i := 194) rfl rfl
theorem fl_RX3_9 : Cond.fieldLink RX3 9 "ShaftLine$Planner" "moved" "I" ∈ TW := tw_1 (i := 195) rfl rfl
theorem fl_RX3_15 : Cond.fieldLink RX3 15 "ShaftLine$Planner" "best" "[I" ∈ TW := tw_1 (i := 197) rfl rfl
theorem fl_RX3_19 : Cond.fieldLink RX3 19 "ShaftLine$Planner" "line" "LShaftLine$Line;" ∈ TW := tw_1 (i := 199) rfl rfl
theorem fl_RX3_23 : Cond.fieldLink RX3 23 "ShaftLine$Planner" "low" "J" ∈ TW := tw_1 (i := 200) rfl rfl
theorem fl_RX3_27 : Cond.fieldLink RX3 27 "ShaftLine$Planner" "high" "J" ∈ TW := tw_1 (i := 201) rfl rfl
theorem fl_RX3_30 : Cond.fieldLink RX3 30 "ShaftLine$Planner" "bestSum" "I" ∈ TW := tw_1 (i := 202) rfl rfl
theorem fl_RX3_33 : Cond.fieldLink RX3 33 "ShaftLine$Planner" "sets" "I" ∈ TW := tw_1 (i := 203) rfl rfl
theorem fl_RX3_36 : Cond.fieldLink RX3 36 "ShaftLine$Planner" "codes" "[I" ∈ TW := tw_1 (i := 204) rfl rfl
theorem fl_RX3_39 : Cond.fieldLink RX3 39 "ShaftLine$Planner" "members" "[I" ∈ TW := tw_1 (i := 205) rfl rfl
theorem fl_RX3_42 : Cond.fieldLink RX3 42 "ShaftLine$Planner" "belows" "[J" ∈ TW := tw_1 (i := 206) rfl rfl
theorem fl_RX3_46 : Cond.fieldLink RX3 46 "ShaftLine$Planner" "bases" "[J" ∈ TW := tw_1 (i := 207) rfl rfl
theorem fl_RX3_49 : Cond.fieldLink RX3 49 "ShaftLine$Planner" "gains" "[J" ∈ TW := tw_1 (i := 208) rfl rfl
theorem fl_RX3_52 : Cond.fieldLink RX3 52 "ShaftLine$Planner" "margins" "[J" ∈ TW := tw_1 (i := 209) rfl rfl
theorem fl_RX3_55 : Cond.fieldLink RX3 55 "ShaftLine$Planner" "moves" "[I" ∈ TW := tw_1 (i := 210) rfl rfl
theorem fl_RX3_58 : Cond.fieldLink RX3 58 "ShaftLine$Planner" "noWeights" "[I" ∈ TW := tw_1 (i := 211) rfl rfl
theorem im_yX1_init : Cond.instanceMethod yX1_init ∈ TW := tw_2 (i := 6) rfl rfl
theorem co_yX1_init : Cond.code yX1_init cX1_init 1 none ∈ TW := tw_2 (i := 7) rfl rfl
theorem ml_RX1_1 : Cond.methodLink RX1 1 objectInit ∈ TW := tw_2 (i := 8) rfl rfl
theorem fl_RX1_7 : Cond.fieldLink RX1 7 "ShaftLine$Fraction" "above" "J" ∈ TW := tw_2 (i := 9) rfl rfl
theorem fl_RX1_13 : Cond.fieldLink RX1 13 "ShaftLine$Fraction" "below" "J" ∈ TW := tw_2 (i := 10) rfl rfl
theorem im_yX6_init : Cond.instanceMethod yX6_init ∈ TW := tw_2 (i := 18) rfl rfl
theorem co_yX6_init : Cond.code yX6_init cX6_init 1 none ∈ TW := tw_2 (i := 19) rfl rfl
theorem ml_RX6_3 : Cond.methodLink RX6 3 objectInit ∈ TW := tw_2 (i := 20) rfl rfl
theorem fl_RX6_9 : Cond.fieldLink RX6 9 "ShaftLine$Sheet" "held" "Z" ∈ TW := tw_2 (i := 21) rfl rfl
theorem fl_RX6_15 : Cond.fieldLink RX6 15 "ShaftLine$Sheet" "lane" "I" ∈ TW := tw_2 (i := 23) rfl rfl
theorem fl_RX6_19 : Cond.fieldLink RX6 19 "ShaftLine$Sheet" "count" "I" ∈ TW := tw_2 (i := 25) rfl rfl
theorem fl_RX6_22 : Cond.fieldLink RX6 22 "ShaftLine$Sheet" "items" "[I" ∈ TW := tw_2 (i := 27) rfl rfl
theorem ml_RL_12 : Cond.methodLink RL 12 yX8_init ∈ TW := tw_4 (i := 128) rfl rfl
theorem im_yX8_init : Cond.instanceMethod yX8_init ∈ TW := tw_4 (i := 129) rfl rfl
theorem co_yX8_init : Cond.code yX8_init cX8_init 2 none ∈ TW := tw_4 (i := 130) rfl rfl
theorem ml_RX8_1 : Cond.methodLink RX8 1 objectInit ∈ TW := tw_4 (i := 131) rfl rfl
theorem fl_RX8_7 : Cond.fieldLink RX8 7 "ShaftLineModel" "places" "[I" ∈ TW := tw_4 (i := 133) rfl rfl
theorem fl_RX8_13 : Cond.fieldLink RX8 13 "ShaftLineModel" "offsets" "[I" ∈ TW := tw_4 (i := 134) rfl rfl
theorem fl_RX8_16 : Cond.fieldLink RX8 16 "ShaftLineModel" "wears" "[I" ∈ TW := tw_4 (i := 135) rfl rfl
theorem fl_RX8_19 : Cond.fieldLink RX8 19 "ShaftLineModel" "readings" "[I" ∈ TW := tw_4 (i := 136) rfl rfl
theorem fl_RX8_22 : Cond.fieldLink RX8 22 "ShaftLineModel" "weights" "[I" ∈ TW := tw_4 (i := 137) rfl rfl
theorem fl_RX8_25 : Cond.fieldLink RX8 25 "ShaftLineModel" "rises" "[I" ∈ TW := tw_4 (i := 138) rfl rfl
theorem fl_RX8_28 : Cond.fieldLink RX8 28 "ShaftLineModel" "stiff" "I" ∈ TW := tw_4 (i := 139) rfl rfl
theorem fl_RX8_32 : Cond.fieldLink RX8 32 "ShaftLineModel" "tape" "[I" ∈ TW := tw_4 (i := 140) rfl rfl
theorem fl_RX8_35 : Cond.fieldLink RX8 35 "ShaftLineModel" "readPlace" "[I" ∈ TW := tw_4 (i := 145) rfl rfl
theorem fl_RX8_38 : Cond.fieldLink RX8 38 "ShaftLineModel" "readOffset" "[I" ∈ TW := tw_4 (i := 146) rfl rfl
theorem fl_RX8_41 : Cond.fieldLink RX8 41 "ShaftLineModel" "readWeight" "[I" ∈ TW := tw_4 (i := 147) rfl rfl
theorem fl_RX8_44 : Cond.fieldLink RX8 44 "ShaftLineModel" "below" "J" ∈ TW := tw_4 (i := 150) rfl rfl
theorem fl_RX8_48 : Cond.fieldLink RX8 48 "ShaftLineModel" "xs" "[I" ∈ TW := tw_4 (i := 152) rfl rfl
theorem fl_RX8_51 : Cond.fieldLink RX8 51 "ShaftLineModel" "hs" "[I" ∈ TW := tw_4 (i := 153) rfl rfl
theorem fl_RX8_54 : Cond.fieldLink RX8 54 "ShaftLineModel" "pulls" "[I" ∈ TW := tw_4 (i := 154) rfl rfl
theorem fl_RX8_57 : Cond.fieldLink RX8 57 "ShaftLineModel" "loadAbove" "[J" ∈ TW := tw_4 (i := 155) rfl rfl
theorem fl_RX8_61 : Cond.fieldLink RX8 61 "ShaftLineModel" "loadBelow" "[J" ∈ TW := tw_4 (i := 156) rfl rfl
theorem fl_RX8_64 : Cond.fieldLink RX8 64 "ShaftLineModel" "moments" "[J" ∈ TW := tw_4 (i := 157) rfl rfl
theorem fl_RX8_67 : Cond.fieldLink RX8 67 "ShaftLineModel" "rights" "[J" ∈ TW := tw_4 (i := 158) rfl rfl
theorem fl_RX8_70 : Cond.fieldLink RX8 70 "ShaftLineModel" "heads" "[J" ∈ TW := tw_4 (i := 159) rfl rfl
theorem fl_RX8_73 : Cond.fieldLink RX8 73 "ShaftLineModel" "tails" "[J" ∈ TW := tw_4 (i := 160) rfl rfl
theorem fl_RX8_76 : Cond.fieldLink RX8 76 "ShaftLineModel" "candidatePlace" "[I" ∈ TW := tw_4 (i := 165) rfl rfl
theorem fl_RX8_79 : Cond.fieldLink RX8 79 "ShaftLineModel" "candidateHeight" "[I" ∈ TW := tw_4 (i := 166) rfl rfl
theorem fl_RX8_82 : Cond.fieldLink RX8 82 "ShaftLineModel" "moves" "[I" ∈ TW := tw_4 (i := 167) rfl rfl
theorem fl_RX8_85 : Cond.fieldLink RX8 85 "ShaftLineModel" "high" "I" ∈ TW := tw_4 (i := 170) rfl rfl
theorem fl_RX8_88 : Cond.fieldLink RX8 88 "ShaftLineModel" "best" "[I" ∈ TW := tw_4 (i := 171) rfl rfl
theorem fl_RX8_91 : Cond.fieldLink RX8 91 "ShaftLineModel" "lanes" "[I" ∈ TW := tw_4 (i := 172) rfl rfl
theorem fl_RX8_94 : Cond.fieldLink RX8 94 "ShaftLineModel" "sizes" "[I" ∈ TW := tw_4 (i := 173) rfl rfl
theorem fl_RX8_97 : Cond.fieldLink RX8 97 "ShaftLineModel" "items" "[I" ∈ TW := tw_4 (i := 174) rfl rfl
theorem fl_RX8_100 : Cond.fieldLink RX8 100 "ShaftLineModel" "moved" "[I" ∈ TW := tw_4 (i := 175) rfl rfl
theorem ml_RL_13 : Cond.methodLink RL 13 yX7_bearing ∈ TW := tw_2 (i := 90) rfl rfl
theorem im_yX7_bearing : Cond.instanceMethod yX7_bearing ∈ TW := tw_2 (i := 91) rfl rfl
theorem se_X7_bearing : Cond.selects RX7 yX7_bearing yX7_bearing ∈ TW := tw_2 (i := 92) rfl rfl
theorem co_yX7_bearing : Cond.code yX7_bearing cX7_bearing 3 (some .int) ∈ TW := tw_2 (i := 93) rfl rfl
theorem fl_RX7_105 : Cond.fieldLink RX7 105 "ShaftLine$Line" "count" "I" ∈ TW := tw_1 (i := 28) rfl rfl
theorem ml_RX7_93 : Cond.methodLink RX7 93 yX7_isPlace ∈ TW := tw_2 (i := 94) rfl rfl
theorem st_yX7_isPlace : Cond.static yX7_isPlace ∈ TW := tw_2 (i := 95) rfl rfl
theorem co_yX7_isPlace : Cond.code yX7_isPlace cX7_isPlace 1 (some .boolean) ∈ TW := tw_2 (i := 96) rfl rfl
theorem ml_RX7_97 : Cond.methodLink RX7 97 yX7_isWithin ∈ TW := tw_2 (i := 97) rfl rfl
theorem st_yX7_isWithin : Cond.static yX7_isWithin ∈ TW := tw_2 (i := 98) rfl rfl
theorem co_yX7_isWithin : Cond.code yX7_isWithin cX7_isWithin 3 (some .boolean) ∈ TW := tw_2 (i := 99) rfl rfl
theorem ml_RX7_101 : Cond.methodLink RX7 101 yX2_bearingAt ∈ TW := tw_2 (i := 100) rfl rfl
theorem im_yX2_bearingAt : Cond.instanceMethod yX2_bearingAt ∈ TW := tw_2 (i := 101) rfl rfl
theorem se_X2_bearingAt : Cond.selects RX2 yX2_bearingAt yX2_bearingAt ∈ TW := tw_2 (i := 102) rfl rfl
theorem co_yX2_bearingAt : Cond.code yX2_bearingAt cX2_bearingAt 3 (some .int) ∈ TW := tw_2 (i := 103) rfl rfl
theorem ml_RX7_108 : Cond.methodLink RX7 108 yX7_forgetAnswers ∈ TW := tw_2 (i := 104) rfl rfl
theorem im_yX7_forgetAnswers : Cond.instanceMethod yX7_forgetAnswers ∈ TW := tw_2 (i := 106) rfl rfl
theorem se_X7_forgetAnswers : Cond.selects RX7 yX7_forgetAnswers yX7_forgetAnswers ∈ TW := tw_0 (i := 0) rfl rfl
theorem co_yX7_forgetAnswers : Cond.code yX7_forgetAnswers cX7_forgetAnswers 1 none ∈ TW := tw_2 (i := 107) rfl rfl
theorem ml_RX7_111 : Cond.methodLink RX7 111 yX2_insert ∈ TW := tw_2 (i := 108) rfl rfl
theorem im_yX2_insert : Cond.instanceMethod yX2_insert ∈ TW := tw_2 (i := 109) rfl rfl
theorem se_X2_insert : Cond.selects RX2 yX2_insert yX2_insert ∈ TW := tw_2 (i := 110) rfl rfl
theorem co_yX2_insert : Cond.code yX2_insert cX2_insert 5 (some .int) ∈ TW := tw_2 (i := 111) rfl rfl
theorem ml_RX2_41 : Cond.methodLink RX2 41 yX2_bearingsBelow ∈ TW := tw_2 (i := 112) rfl rfl
theorem im_yX2_bearingsBelow : Cond.instanceMethod yX2_bearingsBelow ∈ TW := tw_2 (i := 113) rfl rfl
theorem se_X2_bearingsBelow : Cond.selects RX2 yX2_bearingsBelow yX2_bearingsBelow ∈ TW := tw_2 (i := 114) rfl rfl
theorem co_yX2_bearingsBelow : Cond.code yX2_bearingsBelow cX2_bearingsBelow 4 (some .int) ∈ TW := tw_2 (i := 115) rfl rfl
theorem ml_RX2_45 : Cond.methodLink RX2 45 yX2_shift ∈ TW := tw_2 (i := 116) rfl rfl
theorem im_yX2_shift : Cond.instanceMethod yX2_shift ∈ TW := tw_2 (i := 118) rfl rfl
theorem se_X2_shift : Cond.selects RX2 yX2_shift yX2_shift ∈ TW := tw_0 (i := 1) rfl rfl
theorem co_yX2_shift : Cond.code yX2_shift cX2_shift 3 none ∈ TW := tw_2 (i := 119) rfl rfl
theorem ml_RL_17 : Cond.methodLink RL 17 yX8_bearing ∈ TW := tw_5 (i := 25) rfl rfl
theorem im_yX8_bearing : Cond.instanceMethod yX8_bearing ∈ TW := tw_5 (i := 26) rfl rfl
theorem se_X8_bearing : Cond.selects RX8 yX8_bearing yX8_bearing ∈ TW := tw_5 (i := 27) rfl rfl
theorem co_yX8_bearing : Cond.code yX8_bearing cX8_bearing 3 (some .int) ∈ TW := tw_5 (i := 28) rfl rfl
theorem ck_RX8_116 : Cond.constantLong RX8 116 (-50) ∈ TW := tw_5 (i := 36) rfl rfl
theorem ck_RX8_118 : Cond.constantLong RX8 118 (50) ∈ TW := tw_5 (i := 37) rfl rfl
theorem fl_RX8_109 : Cond.fieldLink RX8 109 "ShaftLineModel" "n" "I" ∈ TW := tw_4 (i := 132) rfl rfl
theorem ml_RX8_112 : Cond.methodLink RX8 112 yX8_isPlace ∈ TW := tw_5 (i := 29) rfl rfl
theorem st_yX8_isPlace : Cond.static yX8_isPlace ∈ TW := tw_5 (i := 30) rfl rfl
theorem co_yX8_isPlace : Cond.code yX8_isPlace cX8_isPlace 1 (some .boolean) ∈ TW := tw_5 (i := 31) rfl rfl
theorem ck_RX8_103 : Cond.constantLong RX8 103 (12) ∈ TW := tw_5 (i := 32) rfl rfl
theorem ml_RX8_105 : Cond.methodLink RX8 105 yX8_in ∈ TW := tw_5 (i := 33) rfl rfl
theorem st_yX8_in : Cond.static yX8_in ∈ TW := tw_5 (i := 34) rfl rfl
theorem co_yX8_in : Cond.code yX8_in cX8_in 6 (some .boolean) ∈ TW := tw_5 (i := 35) rfl rfl
theorem ml_RX8_120 : Cond.methodLink RX8 120 yX8_bearingAt ∈ TW := tw_5 (i := 38) rfl rfl
theorem im_yX8_bearingAt : Cond.instanceMethod yX8_bearingAt ∈ TW := tw_5 (i := 40) rfl rfl
theorem se_X8_bearingAt : Cond.selects RX8 yX8_bearingAt yX8_bearingAt ∈ TW := tw_0 (i := 36) rfl rfl
theorem co_yX8_bearingAt : Cond.code yX8_bearingAt cX8_bearingAt 3 (some .int) ∈ TW := tw_5 (i := 41) rfl rfl
theorem ml_RX8_124 : Cond.methodLink RX8 124 yX8_puts ∈ TW := tw_5 (i := 42) rfl rfl
theorem im_yX8_puts : Cond.instanceMethod yX8_puts ∈ TW := tw_5 (i := 44) rfl rfl
theorem se_X8_puts : Cond.selects RX8 yX8_puts yX8_puts ∈ TW := tw_0 (i := 37) rfl rfl
theorem co_yX8_puts : Cond.code yX8_puts cX8_puts 4 (some .int) ∈ TW := tw_5 (i := 45) rfl rfl
theorem ml_RL_18 : Cond.methodLink RL 18 yX7_remove ∈ TW := tw_2 (i := 120) rfl rfl
theorem im_yX7_remove : Cond.instanceMethod yX7_remove ∈ TW := tw_2 (i := 121) rfl rfl
theorem se_X7_remove : Cond.selects RX7 yX7_remove yX7_remove ∈ TW := tw_2 (i := 122) rfl rfl
theorem co_yX7_remove : Cond.code yX7_remove cX7_remove 2 (some .int) ∈ TW := tw_2 (i := 123) rfl rfl
theorem ml_RX7_115 : Cond.methodLink RX7 115 yX7_isBearing ∈ TW := tw_2 (i := 124) rfl rfl
theorem im_yX7_isBearing : Cond.instanceMethod yX7_isBearing ∈ TW := tw_2 (i := 126) rfl rfl
theorem se_X7_isBearing : Cond.selects RX7 yX7_isBearing yX7_isBearing ∈ TW := tw_0 (i := 2) rfl rfl
theorem co_yX7_isBearing : Cond.code yX7_isBearing cX7_isBearing 2 (some .boolean) ∈ TW := tw_2 (i := 127) rfl rfl
theorem ml_RX7_118 : Cond.methodLink RX7 118 yX2_delete ∈ TW := tw_2 (i := 128) rfl rfl
theorem im_yX2_delete : Cond.instanceMethod yX2_delete ∈ TW := tw_2 (i := 129) rfl rfl
theorem se_X2_delete : Cond.selects RX2 yX2_delete yX2_delete ∈ TW := tw_2 (i := 130) rfl rfl
theorem co_yX2_delete : Cond.code yX2_delete cX2_delete 3 none ∈ TW := tw_2 (i := 131) rfl rfl
theorem ml_RL_22 : Cond.methodLink RL 22 yX8_remove ∈ TW := tw_5 (i := 46) rfl rfl
theorem im_yX8_remove : Cond.instanceMethod yX8_remove ∈ TW := tw_5 (i := 47) rfl rfl
theorem se_X8_remove : Cond.selects RX8 yX8_remove yX8_remove ∈ TW := tw_5 (i := 48) rfl rfl
theorem co_yX8_remove : Cond.code yX8_remove cX8_remove 3 (some .int) ∈ TW := tw_5 (i := 49) rfl rfl
theorem ml_RX8_128 : Cond.methodLink RX8 128 yX8_isBearing ∈ TW := tw_5 (i := 50) rfl rfl
theorem im_yX8_isBearing : Cond.instanceMethod yX8_isBearing ∈ TW := tw_5 (i := 52) rfl rfl
theorem se_X8_isBearing : Cond.selects RX8 yX8_isBearing yX8_isBearing ∈ TW := tw_0 (i := 38) rfl rfl
theorem co_yX8_isBearing : Cond.code yX8_isBearing cX8_isBearing 2 (some .boolean) ∈ TW := tw_5 (i := 53) rfl rfl
theorem ml_RL_23 : Cond.methodLink RL 23 yX7_offset ∈ TW := tw_2 (i := 132) rfl rfl
theorem im_yX7_offset : Cond.instanceMethod yX7_offset ∈ TW := tw_2 (i := 133) rfl rfl
theorem se_X7_offset : Cond.selects RX7 yX7_offset yX7_offset ∈ TW := tw_2 (i := 134) rfl rfl
theorem co_yX7_offset : Cond.code yX7_offset cX7_offset 4 (some .int) ∈ TW := tw_2 (i := 135) rfl rfl
theorem fl_RX7_122 : Cond.fieldLink RX7 122 "ShaftLine$Line" "offset" "[I" ∈ TW := tw_1 (i := 35) rfl rfl
theorem ml_RL_26 : Cond.methodLink RL 26 yX8_offset ∈ TW := tw_5 (i := 54) rfl rfl
theorem im_yX8_offset : Cond.instanceMethod yX8_offset ∈ TW := tw_5 (i := 55) rfl rfl
theorem se_X8_offset : Cond.selects RX8 yX8_offset yX8_offset ∈ TW := tw_5 (i := 56) rfl rfl
theorem co_yX8_offset : Cond.code yX8_offset cX8_offset 4 (some .int) ∈ TW := tw_5 (i := 57) rfl rfl
theorem ml_RL_27 : Cond.methodLink RL 27 yX7_weight ∈ TW := tw_2 (i := 136) rfl rfl
theorem im_yX7_weight : Cond.instanceMethod yX7_weight ∈ TW := tw_2 (i := 137) rfl rfl
theorem se_X7_weight : Cond.selects RX7 yX7_weight yX7_weight ∈ TW := tw_2 (i := 138) rfl rfl
theorem co_yX7_weight : Cond.code yX7_weight cX7_weight 4 (some .int) ∈ TW := tw_2 (i := 139) rfl rfl
theorem fl_RX7_126 : Cond.fieldLink RX7 126 "ShaftLine$Line" "weight" "[I" ∈ TW := tw_1 (i := 43) rfl rfl
theorem ml_RL_30 : Cond.methodLink RL 30 yX8_weight ∈ TW := tw_5 (i := 58) rfl rfl
theorem im_yX8_weight : Cond.instanceMethod yX8_weight ∈ TW := tw_5 (i := 59) rfl rfl
theorem se_X8_weight : Cond.selects RX8 yX8_weight yX8_weight ∈ TW := tw_5 (i := 60) rfl rfl
theorem co_yX8_weight : Cond.code yX8_weight cX8_weight 4 (some .int) ∈ TW := tw_5 (i := 61) rfl rfl
theorem ml_RL_31 : Cond.methodLink RL 31 yX7_stiffness ∈ TW := tw_2 (i := 140) rfl rfl
theorem im_yX7_stiffness : Cond.instanceMethod yX7_stiffness ∈ TW := tw_2 (i := 141) rfl rfl
theorem se_X7_stiffness : Cond.selects RX7 yX7_stiffness yX7_stiffness ∈ TW := tw_2 (i := 142) rfl rfl
theorem co_yX7_stiffness : Cond.code yX7_stiffness cX7_stiffness 3 (some .int) ∈ TW := tw_2 (i := 143) rfl rfl
theorem fl_RX7_129 : Cond.fieldLink RX7 129 "ShaftLine$Line" "stiffness" "I" ∈ TW := tw_1 (i := 48) rfl rfl
theorem ml_RL_34 : Cond.methodLink RL 34 yX8_stiffness ∈ TW := tw_5 (i := 62) rfl rfl
theorem im_yX8_stiffness : Cond.instanceMethod yX8_stiffness ∈ TW := tw_5 (i := 63) rfl rfl
theorem se_X8_stiffness : Cond.selects RX8 yX8_stiffness yX8_stiffness ∈ TW := tw_5 (i := 64) rfl rfl
theorem co_yX8_stiffness : Cond.code yX8_stiffness cX8_stiffness 3 (some .int) ∈ TW := tw_5 (i := 65) rfl rfl
theorem ck_RX8_131 : Cond.constantLong RX8 131 (20) ∈ TW := tw_5 (i := 66) rfl rfl
theorem ml_RL_35 : Cond.methodLink RL 35 yX7_rise ∈ TW := tw_2 (i := 144) rfl rfl
theorem im_yX7_rise : Cond.instanceMethod yX7_rise ∈ TW := tw_2 (i := 145) rfl rfl
theorem se_X7_rise : Cond.selects RX7 yX7_rise yX7_rise ∈ TW := tw_2 (i := 146) rfl rfl
theorem co_yX7_rise : Cond.code yX7_rise cX7_rise 5 (some .int) ∈ TW := tw_2 (i := 147) rfl rfl
theorem ml_RX7_132 : Cond.methodLink RX7 132 yX7_isState ∈ TW := tw_2 (i := 148) rfl rfl
theorem st_yX7_isState : Cond.static yX7_isState ∈ TW := tw_2 (i := 149) rfl rfl
theorem co_yX7_isState : Cond.code yX7_isState cX7_isState 1 (some .boolean) ∈ TW := tw_2 (i := 150) rfl rfl
theorem ml_RX7_135 : Cond.methodLink RX7 135 yX7_isRise ∈ TW := tw_2 (i := 151) rfl rfl
theorem st_yX7_isRise : Cond.static yX7_isRise ∈ TW := tw_2 (i := 152) rfl rfl
theorem co_yX7_isRise : Cond.code yX7_isRise cX7_isRise 1 (some .boolean) ∈ TW := tw_2 (i := 153) rfl rfl
theorem ml_RL_39 : Cond.methodLink RL 39 yX8_rise ∈ TW := tw_5 (i := 67) rfl rfl
theorem im_yX8_rise : Cond.instanceMethod yX8_rise ∈ TW := tw_5 (i := 68) rfl rfl
theorem se_X8_rise : Cond.selects RX8 yX8_rise yX8_rise ∈ TW := tw_5 (i := 69) rfl rfl
theorem co_yX8_rise : Cond.code yX8_rise cX8_rise 5 (some .int) ∈ TW := tw_5 (i := 70) rfl rfl
theorem ck_RX8_138 : Cond.constantLong RX8 138 (-20) ∈ TW := tw_5 (i := 75) rfl rfl
theorem ml_RX8_135 : Cond.methodLink RX8 135 yX8_isState ∈ TW := tw_5 (i := 71) rfl rfl
theorem st_yX8_isState : Cond.static yX8_isState ∈ TW := tw_5 (i := 72) rfl rfl
theorem co_yX8_isState : Cond.code yX8_isState cX8_isState 1 (some .boolean) ∈ TW := tw_5 (i := 73) rfl rfl
theorem ck_RX8_133 : Cond.constantLong RX8 133 (3) ∈ TW := tw_5 (i := 74) rfl rfl
theorem ml_RL_40 : Cond.methodLink RL 40 yX7_rises ∈ TW := tw_2 (i := 154) rfl rfl
theorem im_yX7_rises : Cond.instanceMethod yX7_rises ∈ TW := tw_2 (i := 155) rfl rfl
theorem se_X7_rises : Cond.selects RX7 yX7_rises yX7_rises ∈ TW := tw_2 (i := 156) rfl rfl
theorem co_yX7_rises : Cond.code yX7_rises cX7_rises 9 (some .int) ∈ TW := tw_2 (i := 157) rfl rfl
theorem fl_RX7_148 : Cond.fieldLink RX7 148 "ShaftLine$Sheet" "items" "[I" ∈ TW := tw_2 (i := 28) rfl rfl
theorem ml_RX7_138 : Cond.methodLink RX7 138 yX7_isSheet ∈ TW := tw_2 (i := 158) rfl rfl
theorem st_yX7_isSheet : Cond.static yX7_isSheet ∈ TW := tw_2 (i := 159) rfl rfl
theorem co_yX7_isSheet : Cond.code yX7_isSheet cX7_isSheet 1 (some .boolean) ∈ TW := tw_2 (i := 160) rfl rfl
theorem ml_RX7_141 : Cond.methodLink RX7 141 yX7_isLane ∈ TW := tw_2 (i := 161) rfl rfl
theorem st_yX7_isLane : Cond.static yX7_isLane ∈ TW := tw_2 (i := 162) rfl rfl
theorem co_yX7_isLane : Cond.code yX7_isLane cX7_isLane 1 (some .boolean) ∈ TW := tw_2 (i := 163) rfl rfl
theorem ml_RX7_144 : Cond.methodLink RX7 144 yX6_faultOf ∈ TW := tw_2 (i := 164) rfl rfl
theorem im_yX6_faultOf : Cond.instanceMethod yX6_faultOf ∈ TW := tw_2 (i := 165) rfl rfl
theorem se_X6_faultOf : Cond.selects RX6 yX6_faultOf yX6_faultOf ∈ TW := tw_2 (i := 166) rfl rfl
theorem co_yX6_faultOf : Cond.code yX6_faultOf cX6_faultOf 4 (some .int) ∈ TW := tw_2 (i := 167) rfl rfl
theorem ml_RX6_26 : Cond.methodLink RX6 26 yX6_has ∈ TW := tw_2 (i := 168) rfl rfl
theorem im_yX6_has : Cond.instanceMethod yX6_has ∈ TW := tw_2 (i := 169) rfl rfl
theorem se_X6_has : Cond.selects RX6 yX6_has yX6_has ∈ TW := tw_2 (i := 170) rfl rfl
theorem co_yX6_has : Cond.code yX6_has cX6_has 3 (some .boolean) ∈ TW := tw_2 (i := 171) rfl rfl
theorem ml_RL_44 : Cond.methodLink RL 44 yX8_rises ∈ TW := tw_5 (i := 76) rfl rfl
theorem im_yX8_rises : Cond.instanceMethod yX8_rises ∈ TW := tw_5 (i := 77) rfl rfl
theorem se_X8_rises : Cond.selects RX8 yX8_rises yX8_rises ∈ TW := tw_5 (i := 78) rfl rfl
theorem co_yX8_rises : Cond.code yX8_rises cX8_rises 8 (some .int) ∈ TW := tw_5 (i := 79) rfl rfl
theorem ck_RX8_146 : Cond.constantLong RX8 146 (13) ∈ TW := tw_5 (i := 87) rfl rfl
theorem ml_RX8_140 : Cond.methodLink RX8 140 yX8_isSheet ∈ TW := tw_5 (i := 80) rfl rfl
theorem st_yX8_isSheet : Cond.static yX8_isSheet ∈ TW := tw_5 (i := 81) rfl rfl
theorem co_yX8_isSheet : Cond.code yX8_isSheet cX8_isSheet 1 (some .boolean) ∈ TW := tw_5 (i := 82) rfl rfl
theorem ml_RX8_143 : Cond.methodLink RX8 143 yX8_isLane ∈ TW := tw_5 (i := 83) rfl rfl
theorem st_yX8_isLane : Cond.static yX8_isLane ∈ TW := tw_5 (i := 84) rfl rfl
theorem co_yX8_isLane : Cond.code yX8_isLane cX8_isLane 1 (some .boolean) ∈ TW := tw_5 (i := 85) rfl rfl
theorem ck_RX8_209 : Cond.constantLong RX8 209 (2) ∈ TW := tw_5 (i := 86) rfl rfl
theorem ml_RX8_148 : Cond.methodLink RX8 148 yX8_finds ∈ TW := tw_5 (i := 88) rfl rfl
theorem im_yX8_finds : Cond.instanceMethod yX8_finds ∈ TW := tw_5 (i := 90) rfl rfl
theorem se_X8_finds : Cond.selects RX8 yX8_finds yX8_finds ∈ TW := tw_0 (i := 39) rfl rfl
theorem co_yX8_finds : Cond.code yX8_finds cX8_finds 5 (some .int) ∈ TW := tw_5 (i := 91) rfl rfl
theorem ml_RL_47 : Cond.methodLink RL 47 yX7_type ∈ TW := tw_2 (i := 172) rfl rfl
theorem im_yX7_type : Cond.instanceMethod yX7_type ∈ TW := tw_2 (i := 173) rfl rfl
theorem se_X7_type : Cond.selects RX7 yX7_type yX7_type ∈ TW := tw_2 (i := 174) rfl rfl
theorem co_yX7_type : Cond.code yX7_type cX7_type 5 (some .int) ∈ TW := tw_2 (i := 175) rfl rfl
theorem ml_RX7_151 : Cond.methodLink RX7 151 yX7_byteOf ∈ TW := tw_2 (i := 176) rfl rfl
theorem st_yX7_byteOf : Cond.static yX7_byteOf ∈ TW := tw_2 (i := 177) rfl rfl
theorem co_yX7_byteOf : Cond.code yX7_byteOf cX7_byteOf 3 (some .int) ∈ TW := tw_2 (i := 178) rfl rfl
theorem ck_RX7_314 : Cond.constantLong RX7 314 (255) ∈ TW := tw_2 (i := 179) rfl rfl
theorem ml_RL_51 : Cond.methodLink RL 51 yX8_type ∈ TW := tw_5 (i := 92) rfl rfl
theorem im_yX8_type : Cond.instanceMethod yX8_type ∈ TW := tw_5 (i := 93) rfl rfl
theorem se_X8_type : Cond.selects RX8 yX8_type yX8_type ∈ TW := tw_5 (i := 94) rfl rfl
theorem co_yX8_type : Cond.code yX8_type cX8_type 5 (some .int) ∈ TW := tw_5 (i := 95) rfl rfl
theorem ck_RX8_152 : Cond.constantLong RX8 152 (8) ∈ TW := tw_5 (i := 96) rfl rfl
theorem ck_RX8_154 : Cond.constantLong RX8 154 (255) ∈ TW := tw_5 (i := 97) rfl rfl
theorem ck_RX8_156 : Cond.constantLong RX8 156 (32) ∈ TW := tw_5 (i := 98) rfl rfl
theorem ck_RX8_158 : Cond.constantLong RX8 158 (126) ∈ TW := tw_5 (i := 99) rfl rfl
theorem fl_RX8_160 : Cond.fieldLink RX8 160 "ShaftLineModel" "taped" "I" ∈ TW := tw_4 (i := 141) rfl rfl
theorem ml_RL_52 : Cond.methodLink RL 52 yX7_read ∈ TW := tw_2 (i := 180) rfl rfl
theorem im_yX7_read : Cond.instanceMethod yX7_read ∈ TW := tw_2 (i := 181) rfl rfl
theorem se_X7_read : Cond.selects RX7 yX7_read yX7_read ∈ TW := tw_2 (i := 182) rfl rfl
theorem co_yX7_read : Cond.code yX7_read cX7_read 2 (some .int) ∈ TW := tw_2 (i := 183) rfl rfl
theorem fl_RX7_158 : Cond.fieldLink RX7 158 "ShaftLine$Reader" "draft" "LShaftLine$Line;" ∈ TW := tw_1 (i := 76) rfl rfl
theorem ml_RX7_155 : Cond.methodLink RX7 155 yX4_faultOf ∈ TW := tw_2 (i := 184) rfl rfl
theorem im_yX4_faultOf : Cond.instanceMethod yX4_faultOf ∈ TW := tw_2 (i := 185) rfl rfl
theorem se_X4_faultOf : Cond.selects RX4 yX4_faultOf yX4_faultOf ∈ TW := tw_2 (i := 186) rfl rfl
theorem co_yX4_faultOf : Cond.code yX4_faultOf cX4_faultOf 4 (some .int) ∈ TW := tw_2 (i := 187) rfl rfl
theorem fl_RX4_38 : Cond.fieldLink RX4 38 "ShaftLine$Line" "stiffness" "I" ∈ TW := tw_1 (i := 46) rfl rfl
theorem ml_RX4_35 : Cond.methodLink RX4 35 yX2_clear ∈ TW := tw_2 (i := 188) rfl rfl
theorem im_yX2_clear : Cond.instanceMethod yX2_clear ∈ TW := tw_2 (i := 189) rfl rfl
theorem se_X2_clear : Cond.selects RX2 yX2_clear yX2_clear ∈ TW := tw_2 (i := 190) rfl rfl
theorem co_yX2_clear : Cond.code yX2_clear cX2_clear 2 none ∈ TW := tw_2 (i := 191) rfl rfl
theorem ml_RX4_41 : Cond.methodLink RX4 41 yX4_readClause ∈ TW := tw_2 (i := 192) rfl rfl
theorem im_yX4_readClause : Cond.instanceMethod yX4_readClause ∈ TW := tw_2 (i := 194) rfl rfl
theorem se_X4_readClause : Cond.selects RX4 yX4_readClause yX4_readClause ∈ TW := tw_0 (i := 3) rfl rfl
theorem co_yX4_readClause : Cond.code yX4_readClause cX4_readClause 1 (some .boolean) ∈ TW := tw_2 (i := 195) rfl rfl
theorem fl_RX4_52 : Cond.fieldLink RX4 52 "ShaftLine$Line" "count" "I" ∈ TW := tw_1 (i := 30) rfl rfl
theorem ml_RX4_45 : Cond.methodLink RX4 45 yX4_skipBlanks ∈ TW := tw_2 (i := 196) rfl rfl
theorem im_yX4_skipBlanks : Cond.instanceMethod yX4_skipBlanks ∈ TW := tw_2 (i := 198) rfl rfl
theorem se_X4_skipBlanks : Cond.selects RX4 yX4_skipBlanks yX4_skipBlanks ∈ TW := tw_0 (i := 4) rfl rfl
theorem co_yX4_skipBlanks : Cond.code yX4_skipBlanks cX4_skipBlanks 1 none ∈ TW := tw_2 (i := 199) rfl rfl
theorem ml_RX4_48 : Cond.methodLink RX4 48 yX4_next ∈ TW := tw_2 (i := 200) rfl rfl
theorem im_yX4_next : Cond.instanceMethod yX4_next ∈ TW := tw_2 (i := 202) rfl rfl
theorem se_X4_next : Cond.selects RX4 yX4_next yX4_next ∈ TW := tw_0 (i := 5) rfl rfl
theorem co_yX4_next : Cond.code yX4_next cX4_next 1 (some .int) ∈ TW := tw_2 (i := 203) rfl rfl
theorem ml_RX4_55 : Cond.methodLink RX4 55 yX4_readBearing ∈ TW := tw_2 (i := 204) rfl rfl
theorem im_yX4_readBearing : Cond.instanceMethod yX4_readBearing ∈ TW := tw_2 (i := 206) rfl rfl
theorem se_X4_readBearing : Cond.selects RX4 yX4_readBearing yX4_readBearing ∈ TW := tw_0 (i := 6) rfl rfl
theorem co_yX4_readBearing : Cond.code yX4_readBearing cX4_readBearing 4 (some .boolean) ∈ TW := tw_2 (i := 207) rfl rfl
theorem ml_RX4_68 : Cond.methodLink RX4 68 yX4_readNumber ∈ TW := tw_2 (i := 208) rfl rfl
theorem im_yX4_readNumber : Cond.instanceMethod yX4_readNumber ∈ TW := tw_2 (i := 210) rfl rfl
theorem se_X4_readNumber : Cond.selects RX4 yX4_readNumber yX4_readNumber ∈ TW := tw_0 (i := 7) rfl rfl
theorem co_yX4_readNumber : Cond.code yX4_readNumber cX4_readNumber 2 (some .int) ∈ TW := tw_2 (i := 211) rfl rfl
theorem ml_RX4_90 : Cond.methodLink RX4 90 Lib.Math.min.name ∈ TW := tw_2 (i := 220) rfl rfl
theorem st_Lib_Math_min_name : Cond.static Lib.Math.min.name ∈ TW := tw_2 (i := 221) rfl rfl
theorem ini__java_lang_Math_ : Cond.initialized "java/lang/Math" ∈ TW := tw_1 (i := 10) rfl rfl
theorem co_Lib_Math_min_name : Cond.code Lib.Math.min.name Lib.Math.min.code 2 (some .int) ∈ TW := tw_2 (i := 222) rfl rfl
theorem ml_RX4_87 : Cond.methodLink RX4 87 yX4_isDigit ∈ TW := tw_2 (i := 212) rfl rfl
theorem im_yX4_isDigit : Cond.instanceMethod yX4_isDigit ∈ TW := tw_2 (i := 214) rfl rfl
theorem se_X4_isDigit : Cond.selects RX4 yX4_isDigit yX4_isDigit ∈ TW := tw_0 (i := 8) rfl rfl
theorem co_yX4_isDigit : Cond.code yX4_isDigit cX4_isDigit 2 (some .boolean) ∈ TW := tw_2 (i := 215) rfl rfl
theorem ml_RX4_58 : Cond.methodLink RX4 58 yX4_fail ∈ TW := tw_2 (i := 216) rfl rfl
theorem im_yX4_fail : Cond.instanceMethod yX4_fail ∈ TW := tw_2 (i := 218) rfl rfl
theorem se_X4_fail : Cond.selects RX4 yX4_fail yX4_fail ∈ TW := tw_0 (i := 9) rfl rfl
theorem co_yX4_fail : Cond.code yX4_fail cX4_fail 2 (some .boolean) ∈ TW := tw_2 (i := 219) rfl rfl
theorem ml_RX4_71 : Cond.methodLink RX4 71 yX2_bearingAt ∈ TW := tw_2 (i := 223) rfl rfl
theorem ml_RX4_75 : Cond.methodLink RX4 75 yX4_steps ∈ TW := tw_2 (i := 224) rfl rfl
theorem im_yX4_steps : Cond.instanceMethod yX4_steps ∈ TW := tw_2 (i := 226) rfl rfl
theorem se_X4_steps : Cond.selects RX4 yX4_steps yX4_steps ∈ TW := tw_0 (i := 10) rfl rfl
theorem co_yX4_steps : Cond.code yX4_steps cX4_steps 2 (some .boolean) ∈ TW := tw_2 (i := 227) rfl rfl
theorem ml_RX4_79 : Cond.methodLink RX4 79 yX2_insert ∈ TW := tw_2 (i := 228) rfl rfl
theorem ml_RX4_62 : Cond.methodLink RX4 62 yX4_readWeight ∈ TW := tw_2 (i := 229) rfl rfl
theorem im_yX4_readWeight : Cond.instanceMethod yX4_readWeight ∈ TW := tw_2 (i := 231) rfl rfl
theorem se_X4_readWeight : Cond.selects RX4 yX4_readWeight yX4_readWeight ∈ TW := tw_0 (i := 11) rfl rfl
theorem co_yX4_readWeight : Cond.code yX4_readWeight cX4_readWeight 3 (some .boolean) ∈ TW := tw_2 (i := 232) rfl rfl
theorem fl_RX4_83 : Cond.fieldLink RX4 83 "ShaftLine$Line" "weight" "[I" ∈ TW := tw_1 (i := 44) rfl rfl
theorem ml_RX4_65 : Cond.methodLink RX4 65 yX4_readStiffness ∈ TW := tw_2 (i := 233) rfl rfl
theorem im_yX4_readStiffness : Cond.instanceMethod yX4_readStiffness ∈ TW := tw_2 (i := 235) rfl rfl
theorem se_X4_readStiffness : Cond.selects RX4 yX4_readStiffness yX4_readStiffness ∈ TW := tw_0 (i := 12) rfl rfl
theorem co_yX4_readStiffness : Cond.code yX4_readStiffness cX4_readStiffness 2 (some .boolean) ∈ TW := tw_2 (i := 236) rfl rfl
theorem ml_RX7_161 : Cond.methodLink RX7 161 yX2_become ∈ TW := tw_2 (i := 237) rfl rfl
theorem im_yX2_become : Cond.instanceMethod yX2_become ∈ TW := tw_2 (i := 238) rfl rfl
theorem se_X2_become : Cond.selects RX2 yX2_become yX2_become ∈ TW := tw_2 (i := 239) rfl rfl
theorem co_yX2_become : Cond.code yX2_become cX2_become 3 none ∈ TW := tw_3 (i := 0) rfl rfl
theorem ml_RX2_34 : Cond.methodLink RX2 34 yX2_clear ∈ TW := tw_3 (i := 1) rfl rfl
theorem ml_RX2_37 : Cond.methodLink RX2 37 yX2_insert ∈ TW := tw_3 (i := 2) rfl rfl
theorem ml_RL_56 : Cond.methodLink RL 56 yX8_read ∈ TW := tw_5 (i := 100) rfl rfl
theorem im_yX8_read : Cond.instanceMethod yX8_read ∈ TW := tw_5 (i := 101) rfl rfl
theorem se_X8_read : Cond.selects RX8 yX8_read yX8_read ∈ TW := tw_5 (i := 102) rfl rfl
theorem co_yX8_read : Cond.code yX8_read cX8_read 4 (some .int) ∈ TW := tw_5 (i := 103) rfl rfl
theorem fl_RX8_163 : Cond.fieldLink RX8 163 "ShaftLineModel" "at" "I" ∈ TW := tw_4 (i := 142) rfl rfl
theorem fl_RX8_166 : Cond.fieldLink RX8 166 "ShaftLineModel" "wrong" "Z" ∈ TW := tw_4 (i := 143) rfl rfl
theorem fl_RX8_181 : Cond.fieldLink RX8 181 "ShaftLineModel" "readMany" "I" ∈ TW := tw_4 (i := 144) rfl rfl
theorem fl_RX8_184 : Cond.fieldLink RX8 184 "ShaftLineModel" "readStiff" "I" ∈ TW := tw_4 (i := 148) rfl rfl
theorem ml_RX8_191 : Cond.methodLink RX8 191 yX8_clause ∈ TW := tw_5 (i := 104) rfl rfl
theorem im_yX8_clause : Cond.instanceMethod yX8_clause ∈ TW := tw_5 (i := 106) rfl rfl
theorem se_X8_clause : Cond.selects RX8 yX8_clause yX8_clause ∈ TW := tw_0 (i := 40) rfl rfl
theorem co_yX8_clause : Cond.code yX8_clause cX8_clause 7 none ∈ TW := tw_5 (i := 107) rfl rfl
theorem ml_RX8_170 : Cond.methodLink RX8 170 yX8_next ∈ TW := tw_5 (i := 108) rfl rfl
theorem im_yX8_next : Cond.instanceMethod yX8_next ∈ TW := tw_5 (i := 110) rfl rfl
theorem se_X8_next : Cond.selects RX8 yX8_next yX8_next ∈ TW := tw_0 (i := 41) rfl rfl
theorem co_yX8_next : Cond.code yX8_next cX8_next 1 (some .int) ∈ TW := tw_5 (i := 111) rfl rfl
theorem ml_RX8_178 : Cond.methodLink RX8 178 yX8_number ∈ TW := tw_5 (i := 112) rfl rfl
theorem im_yX8_number : Cond.instanceMethod yX8_number ∈ TW := tw_5 (i := 114) rfl rfl
theorem se_X8_number : Cond.selects RX8 yX8_number yX8_number ∈ TW := tw_0 (i := 42) rfl rfl
theorem co_yX8_number : Cond.code yX8_number cX8_number 5 (some .int) ∈ TW := tw_5 (i := 115) rfl rfl
theorem ck_RX8_174 : Cond.constantLong RX8 174 (48) ∈ TW := tw_5 (i := 116) rfl rfl
theorem ck_RX8_176 : Cond.constantLong RX8 176 (57) ∈ TW := tw_5 (i := 117) rfl rfl
theorem ml_RX8_187 : Cond.methodLink RX8 187 yX8_figure ∈ TW := tw_5 (i := 118) rfl rfl
theorem im_yX8_figure : Cond.instanceMethod yX8_figure ∈ TW := tw_5 (i := 120) rfl rfl
theorem se_X8_figure : Cond.selects RX8 yX8_figure yX8_figure ∈ TW := tw_0 (i := 43) rfl rfl
theorem co_yX8_figure : Cond.code yX8_figure cX8_figure 6 (some .int) ∈ TW := tw_5 (i := 121) rfl rfl
theorem ml_RL_57 : Cond.methodLink RL 57 yX7_told ∈ TW := tw_3 (i := 3) rfl rfl
theorem im_yX7_told : Cond.instanceMethod yX7_told ∈ TW := tw_3 (i := 4) rfl rfl
theorem se_X7_told : Cond.selects RX7 yX7_told yX7_told ∈ TW := tw_3 (i := 5) rfl rfl
theorem co_yX7_told : Cond.code yX7_told cX7_told 3 (some .int) ∈ TW := tw_3 (i := 6) rfl rfl
theorem ck_RX7_165 : Cond.constant RX7 165 (-100001) ∈ TW := tw_3 (i := 7) rfl rfl
theorem fl_RX7_166 : Cond.fieldLink RX7 166 "ShaftLine$Line" "place" "[I" ∈ TW := tw_1 (i := 33) rfl rfl
theorem fl_RX7_169 : Cond.fieldLink RX7 169 "ShaftLine$Line" "wear" "[I" ∈ TW := tw_1 (i := 38) rfl rfl
theorem fl_RX7_172 : Cond.fieldLink RX7 172 "ShaftLine$Line" "reading" "[I" ∈ TW := tw_1 (i := 40) rfl rfl
theorem ml_RL_60 : Cond.methodLink RL 60 yX8_told ∈ TW := tw_5 (i := 122) rfl rfl
theorem im_yX8_told : Cond.instanceMethod yX8_told ∈ TW := tw_5 (i := 123) rfl rfl
theorem se_X8_told : Cond.selects RX8 yX8_told yX8_told ∈ TW := tw_5 (i := 124) rfl rfl
theorem co_yX8_told : Cond.code yX8_told cX8_told 3 (some .int) ∈ TW := tw_5 (i := 125) rfl rfl
theorem ck_RX8_194 : Cond.constant RX8 194 (-100001) ∈ TW := tw_5 (i := 126) rfl rfl
theorem ml_RL_61 : Cond.methodLink RL 61 yX7_count ∈ TW := tw_3 (i := 8) rfl rfl
theorem im_yX7_count : Cond.instanceMethod yX7_count ∈ TW := tw_3 (i := 9) rfl rfl
theorem se_X7_count : Cond.selects RX7 yX7_count yX7_count ∈ TW := tw_3 (i := 10) rfl rfl
theorem co_yX7_count : Cond.code yX7_count cX7_count 2 (some .int) ∈ TW := tw_3 (i := 11) rfl rfl
theorem ml_RX7_175 : Cond.methodLink RX7 175 yX2_allWeights ∈ TW := tw_3 (i := 12) rfl rfl
theorem im_yX2_allWeights : Cond.instanceMethod yX2_allWeights ∈ TW := tw_3 (i := 13) rfl rfl
theorem se_X2_allWeights : Cond.selects RX2 yX2_allWeights yX2_allWeights ∈ TW := tw_3 (i := 14) rfl rfl
theorem co_yX2_allWeights : Cond.code yX2_allWeights cX2_allWeights 3 (some .int) ∈ TW := tw_3 (i := 15) rfl rfl
theorem ml_RX7_179 : Cond.methodLink RX7 179 yX2_placesWithWeights ∈ TW := tw_3 (i := 16) rfl rfl
theorem im_yX2_placesWithWeights : Cond.instanceMethod yX2_placesWithWeights ∈ TW := tw_3 (i := 17) rfl rfl
theorem se_X2_placesWithWeights : Cond.selects RX2 yX2_placesWithWeights yX2_placesWithWeights ∈ TW := tw_3 (i := 18) rfl rfl
theorem co_yX2_placesWithWeights : Cond.code yX2_placesWithWeights cX2_placesWithWeights 3 (some .int) ∈ TW := tw_3 (i := 19) rfl rfl
theorem ml_RL_64 : Cond.methodLink RL 64 yX8_count ∈ TW := tw_5 (i := 127) rfl rfl
theorem im_yX8_count : Cond.instanceMethod yX8_count ∈ TW := tw_5 (i := 128) rfl rfl
theorem se_X8_count : Cond.selects RX8 yX8_count yX8_count ∈ TW := tw_5 (i := 129) rfl rfl
theorem co_yX8_count : Cond.code yX8_count cX8_count 4 (some .int) ∈ TW := tw_5 (i := 130) rfl rfl
theorem ml_RX8_195 : Cond.methodLink RX8 195 yX8_allWeights ∈ TW := tw_5 (i := 131) rfl rfl
theorem im_yX8_allWeights : Cond.instanceMethod yX8_allWeights ∈ TW := tw_5 (i := 133) rfl rfl
theorem se_X8_allWeights : Cond.selects RX8 yX8_allWeights yX8_allWeights ∈ TW := tw_0 (i := 44) rfl rfl
theorem co_yX8_allWeights : Cond.code yX8_allWeights cX8_allWeights 3 (some .int) ∈ TW := tw_5 (i := 134) rfl rfl
theorem ml_RL_65 : Cond.methodLink RL 65 yX7_load ∈ TW := tw_3 (i := 20) rfl rfl
theorem im_yX7_load : Cond.instanceMethod yX7_load ∈ TW := tw_3 (i := 21) rfl rfl
theorem se_X7_load : Cond.selects RX7 yX7_load yX7_load ∈ TW := tw_3 (i := 22) rfl rfl
theorem co_yX7_load : Cond.code yX7_load cX7_load 4 (some .long) ∈ TW := tw_3 (i := 23) rfl rfl
theorem fl_RX7_195 : Cond.fieldLink RX7 195 "ShaftLine$Rest" "beam" "LShaftLine$Beam;" ∈ TW := tw_1 (i := 173) rfl rfl
theorem fl_RX7_196 : Cond.fieldLink RX7 196 "ShaftLine$Beam" "below" "J" ∈ TW := tw_1 (i := 114) rfl rfl
theorem ml_RX7_182 : Cond.methodLink RX7 182 yX7_isPart ∈ TW := tw_3 (i := 24) rfl rfl
theorem st_yX7_isPart : Cond.static yX7_isPart ∈ TW := tw_3 (i := 25) rfl rfl
theorem co_yX7_isPart : Cond.code yX7_isPart cX7_isPart 1 (some .boolean) ∈ TW := tw_3 (i := 26) rfl rfl
theorem ml_RX7_185 : Cond.methodLink RX7 185 yX7_refusal ∈ TW := tw_3 (i := 27) rfl rfl
theorem st_yX7_refusal : Cond.static yX7_refusal ∈ TW := tw_3 (i := 28) rfl rfl
theorem co_yX7_refusal : Cond.code yX7_refusal cX7_refusal 1 (some .long) ∈ TW := tw_3 (i := 29) rfl rfl
theorem ck_RX7_316 : Cond.constantLong RX7 316 (1099511627776) ∈ TW := tw_3 (i := 30) rfl rfl
theorem ml_RX7_189 : Cond.methodLink RX7 189 yX7_comesToRest ∈ TW := tw_3 (i := 31) rfl rfl
theorem im_yX7_comesToRest : Cond.instanceMethod yX7_comesToRest ∈ TW := tw_3 (i := 33) rfl rfl
theorem se_X7_comesToRest : Cond.selects RX7 yX7_comesToRest yX7_comesToRest ∈ TW := tw_0 (i := 13) rfl rfl
theorem co_yX7_comesToRest : Cond.code yX7_comesToRest cX7_comesToRest 2 (some .boolean) ∈ TW := tw_3 (i := 34) rfl rfl
theorem ml_RX7_247 : Cond.methodLink RX7 247 yX5_start ∈ TW := tw_3 (i := 35) rfl rfl
theorem im_yX5_start : Cond.instanceMethod yX5_start ∈ TW := tw_3 (i := 36) rfl rfl
theorem se_X5_start : Cond.selects RX5 yX5_start yX5_start ∈ TW := tw_3 (i := 37) rfl rfl
theorem co_yX5_start : Cond.code yX5_start cX5_start 3 none ∈ TW := tw_3 (i := 38) rfl rfl
theorem ml_RX5_32 : Cond.methodLink RX5 32 yX0_start ∈ TW := tw_3 (i := 39) rfl rfl
theorem im_yX0_start : Cond.instanceMethod yX0_start ∈ TW := tw_3 (i := 40) rfl rfl
theorem se_X0_start : Cond.selects RX0 yX0_start yX0_start ∈ TW := tw_3 (i := 41) rfl rfl
theorem co_yX0_start : Cond.code yX0_start cX0_start 2 none ∈ TW := tw_3 (i := 42) rfl rfl
theorem ml_RX5_36 : Cond.methodLink RX5 36 yX0_carry ∈ TW := tw_3 (i := 43) rfl rfl
theorem im_yX0_carry : Cond.instanceMethod yX0_carry ∈ TW := tw_3 (i := 44) rfl rfl
theorem se_X0_carry : Cond.selects RX0 yX0_carry yX0_carry ∈ TW := tw_3 (i := 45) rfl rfl
theorem co_yX0_carry : Cond.code yX0_carry cX0_carry 11 none ∈ TW := tw_3 (i := 46) rfl rfl
theorem ck_RX0_66 : Cond.constantLong RX0 66 (3) ∈ TW := tw_3 (i := 47) rfl rfl
theorem ck_RX0_68 : Cond.constantLong RX0 68 (2) ∈ TW := tw_3 (i := 48) rfl rfl
theorem ml_RX7_250 : Cond.methodLink RX7 250 yX7_putBearings ∈ TW := tw_3 (i := 49) rfl rfl
theorem im_yX7_putBearings : Cond.instanceMethod yX7_putBearings ∈ TW := tw_3 (i := 51) rfl rfl
theorem se_X7_putBearings : Cond.selects RX7 yX7_putBearings yX7_putBearings ∈ TW := tw_0 (i := 14) rfl rfl
theorem co_yX7_putBearings : Cond.code yX7_putBearings cX7_putBearings 5 none ∈ TW := tw_3 (i := 52) rfl rfl
theorem ml_RX7_324 : Cond.methodLink RX7 324 yX7_standing ∈ TW := tw_3 (i := 53) rfl rfl
theorem im_yX7_standing : Cond.instanceMethod yX7_standing ∈ TW := tw_3 (i := 55) rfl rfl
theorem se_X7_standing : Cond.selects RX7 yX7_standing yX7_standing ∈ TW := tw_0 (i := 15) rfl rfl
theorem co_yX7_standing : Cond.code yX7_standing cX7_standing 3 (some .int) ∈ TW := tw_3 (i := 56) rfl rfl
theorem ml_RX7_254 : Cond.methodLink RX7 254 yX5_put ∈ TW := tw_3 (i := 57) rfl rfl
theorem im_yX5_put : Cond.instanceMethod yX5_put ∈ TW := tw_3 (i := 58) rfl rfl
theorem se_X5_put : Cond.selects RX5 yX5_put yX5_put ∈ TW := tw_3 (i := 59) rfl rfl
theorem co_yX5_put : Cond.code yX5_put cX5_put 3 none ∈ TW := tw_3 (i := 60) rfl rfl
theorem ml_RX7_257 : Cond.methodLink RX7 257 yX5_settle ∈ TW := tw_3 (i := 61) rfl rfl
theorem im_yX5_settle : Cond.instanceMethod yX5_settle ∈ TW := tw_3 (i := 62) rfl rfl
theorem se_X5_settle : Cond.selects RX5 yX5_settle yX5_settle ∈ TW := tw_3 (i := 63) rfl rfl
theorem co_yX5_settle : Cond.code yX5_settle cX5_settle 3 (some .boolean) ∈ TW := tw_3 (i := 64) rfl rfl
theorem ml_RX5_40 : Cond.methodLink RX5 40 yJ6_bitCount_0f7a4 ∈ TW := tw_3 (i := 65) rfl rfl
theorem st_yJ6_bitCount_0f7a4 : Cond.static yJ6_bitCount_0f7a4 ∈ TW := tw_3 (i := 66) rfl rfl
theorem ini_RJ6 : Cond.initialized RJ6 ∈ TW := tw_1 (i := 11) rfl rfl
theorem co_yJ6_bitCount_0f7a4 : Cond.code yJ6_bitCount_0f7a4 cJ6_bitCount_0f7a4 1 (some .int) ∈ TW := tw_3 (i := 67) rfl rfl
theorem ck_RJ6_265 : Cond.constant RJ6 265 (1431655765) ∈ TW := tw_3 (i := 68) rfl rfl
theorem ck_RJ6_266 : Cond.constant RJ6 266 (858993459) ∈ TW := tw_3 (i := 69) rfl rfl
theorem ck_RJ6_267 : Cond.constant RJ6 267 (252645135) ∈ TW := tw_3 (i := 70) rfl rfl
theorem ml_RX5_46 : Cond.methodLink RX5 46 yX5_lay ∈ TW := tw_3 (i := 71) rfl rfl
theorem im_yX5_lay : Cond.instanceMethod yX5_lay ∈ TW := tw_3 (i := 72) rfl rfl
theorem se_X5_lay : Cond.selects RX5 yX5_lay yX5_lay ∈ TW := tw_3 (i := 73) rfl rfl
theorem co_yX5_lay : Cond.code yX5_lay cX5_lay 3 none ∈ TW := tw_3 (i := 74) rfl rfl
theorem fl_RX5_53 : Cond.fieldLink RX5 53 "ShaftLine$Beam" "count" "I" ∈ TW := tw_1 (i := 105) rfl rfl
theorem ml_RX5_54 : Cond.methodLink RX5 54 yX0_add ∈ TW := tw_3 (i := 75) rfl rfl
theorem im_yX0_add : Cond.instanceMethod yX0_add ∈ TW := tw_3 (i := 76) rfl rfl
theorem se_X0_add : Cond.selects RX0 yX0_add yX0_add ∈ TW := tw_3 (i := 77) rfl rfl
theorem co_yX0_add : Cond.code yX0_add cX0_add 3 none ∈ TW := tw_3 (i := 78) rfl rfl
theorem ml_RX5_58 : Cond.methodLink RX5 58 yX0_solve ∈ TW := tw_3 (i := 79) rfl rfl
theorem im_yX0_solve : Cond.instanceMethod yX0_solve ∈ TW := tw_3 (i := 80) rfl rfl
theorem se_X0_solve : Cond.selects RX0 yX0_solve yX0_solve ∈ TW := tw_3 (i := 81) rfl rfl
theorem co_yX0_solve : Cond.code yX0_solve cX0_solve 1 none ∈ TW := tw_3 (i := 82) rfl rfl
theorem ml_RX0_70 : Cond.methodLink RX0 70 yX0_measure ∈ TW := tw_3 (i := 83) rfl rfl
theorem im_yX0_measure : Cond.instanceMethod yX0_measure ∈ TW := tw_3 (i := 85) rfl rfl
theorem se_X0_measure : Cond.selects RX0 yX0_measure yX0_measure ∈ TW := tw_0 (i := 16) rfl rfl
theorem co_yX0_measure : Cond.code yX0_measure cX0_measure 2 none ∈ TW := tw_3 (i := 86) rfl rfl
theorem ck_RX0_82 : Cond.constantLong RX0 82 (6) ∈ TW := tw_3 (i := 87) rfl rfl
theorem ml_RX0_84 : Cond.methodLink RX0 84 yX0_firstPush ∈ TW := tw_3 (i := 88) rfl rfl
theorem im_yX0_firstPush : Cond.instanceMethod yX0_firstPush ∈ TW := tw_3 (i := 90) rfl rfl
theorem se_X0_firstPush : Cond.selects RX0 yX0_firstPush yX0_firstPush ∈ TW := tw_0 (i := 17) rfl rfl
theorem co_yX0_firstPush : Cond.code yX0_firstPush cX0_firstPush 1 (some .long) ∈ TW := tw_3 (i := 91) rfl rfl
theorem ml_RX0_88 : Cond.methodLink RX0 88 yX0_cubeOf ∈ TW := tw_3 (i := 92) rfl rfl
theorem st_yX0_cubeOf : Cond.static yX0_cubeOf ∈ TW := tw_3 (i := 93) rfl rfl
theorem co_yX0_cubeOf : Cond.code yX0_cubeOf cX0_cubeOf 2 (some .long) ∈ TW := tw_3 (i := 94) rfl rfl
theorem ml_RX0_92 : Cond.methodLink RX0 92 yX0_secondPush ∈ TW := tw_3 (i := 95) rfl rfl
theorem im_yX0_secondPush : Cond.instanceMethod yX0_secondPush ∈ TW := tw_3 (i := 97) rfl rfl
theorem se_X0_secondPush : Cond.selects RX0 yX0_secondPush yX0_secondPush ∈ TW := tw_0 (i := 18) rfl rfl
theorem co_yX0_secondPush : Cond.code yX0_secondPush cX0_secondPush 1 (some .long) ∈ TW := tw_3 (i := 98) rfl rfl
theorem ml_RX0_73 : Cond.methodLink RX0 73 yX0_findDeterminants ∈ TW := tw_3 (i := 99) rfl rfl
theorem im_yX0_findDeterminants : Cond.instanceMethod yX0_findDeterminants ∈ TW := tw_3 (i := 101) rfl rfl
theorem se_X0_findDeterminants : Cond.selects RX0 yX0_findDeterminants yX0_findDeterminants ∈ TW := tw_0 (i := 19) rfl rfl
theorem co_yX0_findDeterminants : Cond.code yX0_findDeterminants cX0_findDeterminants 3 none ∈ TW := tw_3 (i := 102) rfl rfl
theorem ml_RX0_76 : Cond.methodLink RX0 76 yX0_findBends ∈ TW := tw_3 (i := 103) rfl rfl
theorem im_yX0_findBends : Cond.instanceMethod yX0_findBends ∈ TW := tw_3 (i := 105) rfl rfl
theorem se_X0_findBends : Cond.selects RX0 yX0_findBends yX0_findBends ∈ TW := tw_0 (i := 20) rfl rfl
theorem co_yX0_findBends : Cond.code yX0_findBends cX0_findBends 8 none ∈ TW := tw_3 (i := 106) rfl rfl
theorem st_yX7_cut : Cond.static yX7_cut ∈ TW := tw_3 (i := 108) rfl rfl
theorem co_yX7_cut : Cond.code yX7_cut cX7_cut 4 (some .long) ∈ TW := tw_3 (i := 109) rfl rfl
theorem ml_RX0_79 : Cond.methodLink RX0 79 yX0_findPushes ∈ TW := tw_3 (i := 110) rfl rfl
theorem im_yX0_findPushes : Cond.instanceMethod yX0_findPushes ∈ TW := tw_3 (i := 112) rfl rfl
theorem se_X0_findPushes : Cond.selects RX0 yX0_findPushes yX0_findPushes ∈ TW := tw_0 (i := 21) rfl rfl
theorem co_yX0_findPushes : Cond.code yX0_findPushes cX0_findPushes 9 none ∈ TW := tw_3 (i := 113) rfl rfl
theorem ml_RX5_49 : Cond.methodLink RX5 49 yX5_holds ∈ TW := tw_3 (i := 114) rfl rfl
theorem im_yX5_holds : Cond.instanceMethod yX5_holds ∈ TW := tw_3 (i := 116) rfl rfl
theorem se_X5_holds : Cond.selects RX5 yX5_holds yX5_holds ∈ TW := tw_0 (i := 22) rfl rfl
theorem co_yX5_holds : Cond.code yX5_holds cX5_holds 2 (some .boolean) ∈ TW := tw_3 (i := 117) rfl rfl
theorem fl_RX5_61 : Cond.fieldLink RX5 61 "ShaftLine$Beam" "push" "[J" ∈ TW := tw_1 (i := 110) rfl rfl
theorem ml_RX5_65 : Cond.methodLink RX5 65 yX5_marginOf ∈ TW := tw_3 (i := 118) rfl rfl
theorem im_yX5_marginOf : Cond.instanceMethod yX5_marginOf ∈ TW := tw_3 (i := 119) rfl rfl
theorem se_X5_marginOf : Cond.selects RX5 yX5_marginOf yX5_marginOf ∈ TW := tw_3 (i := 120) rfl rfl
theorem co_yX5_marginOf : Cond.code yX5_marginOf cX5_marginOf 2 (some .long) ∈ TW := tw_3 (i := 121) rfl rfl
theorem ml_RX5_69 : Cond.methodLink RX5 69 yX5_pushOf ∈ TW := tw_3 (i := 122) rfl rfl
theorem im_yX5_pushOf : Cond.instanceMethod yX5_pushOf ∈ TW := tw_3 (i := 123) rfl rfl
theorem se_X5_pushOf : Cond.selects RX5 yX5_pushOf yX5_pushOf ∈ TW := tw_3 (i := 124) rfl rfl
theorem co_yX5_pushOf : Cond.code yX5_pushOf cX5_pushOf 2 (some .long) ∈ TW := tw_3 (i := 125) rfl rfl
theorem ml_RX5_72 : Cond.methodLink RX5 72 yX0_height ∈ TW := tw_3 (i := 126) rfl rfl
theorem im_yX0_height : Cond.instanceMethod yX0_height ∈ TW := tw_3 (i := 127) rfl rfl
theorem se_X0_height : Cond.selects RX0 yX0_height yX0_height ∈ TW := tw_3 (i := 128) rfl rfl
theorem co_yX0_height : Cond.code yX0_height cX0_height 2 (some .long) ∈ TW := tw_3 (i := 129) rfl rfl
theorem ml_RX0_99 : Cond.methodLink RX0 99 yX0_firstLevel ∈ TW := tw_3 (i := 130) rfl rfl
theorem im_yX0_firstLevel : Cond.instanceMethod yX0_firstLevel ∈ TW := tw_3 (i := 132) rfl rfl
theorem se_X0_firstLevel : Cond.selects RX0 yX0_firstLevel yX0_firstLevel ∈ TW := tw_0 (i := 23) rfl rfl
theorem co_yX0_firstLevel : Cond.code yX0_firstLevel cX0_firstLevel 1 (some .long) ∈ TW := tw_3 (i := 133) rfl rfl
theorem ml_RX0_102 : Cond.methodLink RX0 102 yX0_secondLevel ∈ TW := tw_3 (i := 134) rfl rfl
theorem im_yX0_secondLevel : Cond.instanceMethod yX0_secondLevel ∈ TW := tw_3 (i := 136) rfl rfl
theorem se_X0_secondLevel : Cond.selects RX0 yX0_secondLevel yX0_secondLevel ∈ TW := tw_0 (i := 24) rfl rfl
theorem co_yX0_secondLevel : Cond.code yX0_secondLevel cX0_secondLevel 1 (some .long) ∈ TW := tw_3 (i := 137) rfl rfl
theorem ml_RX0_105 : Cond.methodLink RX0 105 yX0_bulge ∈ TW := tw_3 (i := 138) rfl rfl
theorem im_yX0_bulge : Cond.instanceMethod yX0_bulge ∈ TW := tw_3 (i := 140) rfl rfl
theorem se_X0_bulge : Cond.selects RX0 yX0_bulge yX0_bulge ∈ TW := tw_0 (i := 25) rfl rfl
theorem co_yX0_bulge : Cond.code yX0_bulge cX0_bulge 7 (some .long) ∈ TW := tw_3 (i := 141) rfl rfl
theorem ml_RX5_75 : Cond.methodLink RX5 75 yX0_heightBelow ∈ TW := tw_3 (i := 142) rfl rfl
theorem im_yX0_heightBelow : Cond.instanceMethod yX0_heightBelow ∈ TW := tw_3 (i := 143) rfl rfl
theorem se_X0_heightBelow : Cond.selects RX0 yX0_heightBelow yX0_heightBelow ∈ TW := tw_3 (i := 144) rfl rfl
theorem co_yX0_heightBelow : Cond.code yX0_heightBelow cX0_heightBelow 1 (some .long) ∈ TW := tw_3 (i := 145) rfl rfl
theorem ml_RX7_192 : Cond.methodLink RX7 192 yX5_pushOf ∈ TW := tw_3 (i := 146) rfl rfl
theorem ml_RX7_200 : Cond.methodLink RX7 200 yX1_become ∈ TW := tw_3 (i := 147) rfl rfl
theorem im_yX1_become : Cond.instanceMethod yX1_become ∈ TW := tw_3 (i := 148) rfl rfl
theorem se_X1_become : Cond.selects RX1 yX1_become yX1_become ∈ TW := tw_3 (i := 149) rfl rfl
theorem co_yX1_become : Cond.code yX1_become cX1_become 7 none ∈ TW := tw_3 (i := 150) rfl rfl
theorem st_yX7_commonDivisor : Cond.static yX7_commonDivisor ∈ TW := tw_3 (i := 152) rfl rfl
theorem co_yX7_commonDivisor : Cond.code yX7_commonDivisor cX7_commonDivisor 11 (some .long) ∈ TW := tw_3 (i := 153) rfl rfl
theorem ml_RX7_318 : Cond.methodLink RX7 318 Lib.MathLoose.abs_long.x ∈ TW := tw_3 (i := 154) rfl rfl
theorem st_Lib_MathLoose_abs_long_x : Cond.static Lib.MathLoose.abs_long.x ∈ TW := tw_3 (i := 155) rfl rfl
theorem co_Lib_MathLoose_abs_long_x : Cond.code Lib.MathLoose.abs_long.x Lib.MathLoose.abs_long.code 2 (some .long) ∈ TW := tw_3 (i := 156) rfl rfl
theorem ml_RX7_203 : Cond.methodLink RX7 203 yX1_part ∈ TW := tw_3 (i := 158) rfl rfl
theorem im_yX1_part : Cond.instanceMethod yX1_part ∈ TW := tw_3 (i := 159) rfl rfl
theorem se_X1_part : Cond.selects RX1 yX1_part yX1_part ∈ TW := tw_3 (i := 160) rfl rfl
theorem co_yX1_part : Cond.code yX1_part cX1_part 2 (some .long) ∈ TW := tw_3 (i := 161) rfl rfl
theorem ml_RL_69 : Cond.methodLink RL 69 yX8_load ∈ TW := tw_5 (i := 135) rfl rfl
theorem im_yX8_load : Cond.instanceMethod yX8_load ∈ TW := tw_5 (i := 136) rfl rfl
theorem se_X8_load : Cond.selects RX8 yX8_load yX8_load ∈ TW := tw_5 (i := 137) rfl rfl
theorem co_yX8_load : Cond.code yX8_load cX8_load 5 (some .long) ∈ TW := tw_5 (i := 138) rfl rfl
theorem ck_RX8_290 : Cond.constantLong RX8 290 (-1099511627777) ∈ TW := tw_5 (i := 139) rfl rfl
theorem ck_RX8_299 : Cond.constantLong RX8 299 (-1099511627778) ∈ TW := tw_5 (i := 219) rfl rfl
theorem ml_RX8_292 : Cond.methodLink RX8 292 yX8_stands ∈ TW := tw_5 (i := 140) rfl rfl
theorem im_yX8_stands : Cond.instanceMethod yX8_stands ∈ TW := tw_5 (i := 142) rfl rfl
theorem se_X8_stands : Cond.selects RX8 yX8_stands yX8_stands ∈ TW := tw_0 (i := 45) rfl rfl
theorem co_yX8_stands : Cond.code yX8_stands cX8_stands 6 none ∈ TW := tw_5 (i := 143) rfl rfl
theorem fl_RX8_264 : Cond.fieldLink RX8 264 "ShaftLineModel" "candidates" "I" ∈ TW := tw_4 (i := 164) rfl rfl
theorem fl_RX8_267 : Cond.fieldLink RX8 267 "ShaftLineModel" "jackNumber" "I" ∈ TW := tw_4 (i := 168) rfl rfl
theorem ml_RX8_296 : Cond.methodLink RX8 296 yX8_rests ∈ TW := tw_5 (i := 144) rfl rfl
theorem im_yX8_rests : Cond.instanceMethod yX8_rests ∈ TW := tw_5 (i := 146) rfl rfl
theorem se_X8_rests : Cond.selects RX8 yX8_rests yX8_rests ∈ TW := tw_0 (i := 46) rfl rfl
theorem co_yX8_rests : Cond.code yX8_rests cX8_rests 5 (some .int) ∈ TW := tw_5 (i := 147) rfl rfl
theorem ml_RX8_280 : Cond.methodLink RX8 280 yX8_size ∈ TW := tw_5 (i := 148) rfl rfl
theorem st_yX8_size : Cond.static yX8_size ∈ TW := tw_5 (i := 149) rfl rfl
theorem co_yX8_size : Cond.code yX8_size cX8_size 3 (some .int) ∈ TW := tw_5 (i := 150) rfl rfl
theorem ml_RX8_283 : Cond.methodLink RX8 283 yX8_isAhead ∈ TW := tw_5 (i := 151) rfl rfl
theorem st_yX8_isAhead : Cond.static yX8_isAhead ∈ TW := tw_5 (i := 152) rfl rfl
theorem co_yX8_isAhead : Cond.code yX8_isAhead cX8_isAhead 3 (some .boolean) ∈ TW := tw_5 (i := 153) rfl rfl
theorem ml_RX8_287 : Cond.methodLink RX8 287 yX8_lies ∈ TW := tw_5 (i := 154) rfl rfl
theorem im_yX8_lies : Cond.instanceMethod yX8_lies ∈ TW := tw_5 (i := 156) rfl rfl
theorem se_X8_lies : Cond.selects RX8 yX8_lies yX8_lies ∈ TW := tw_0 (i := 47) rfl rfl
theorem co_yX8_lies : Cond.code yX8_lies cX8_lies 3 (some .boolean) ∈ TW := tw_5 (i := 157) rfl rfl
theorem fl_RX8_215 : Cond.fieldLink RX8 215 "ShaftLineModel" "many" "I" ∈ TW := tw_4 (i := 151) rfl rfl
theorem fl_RX8_202 : Cond.fieldLink RX8 202 "ShaftLineModel" "above" "J" ∈ TW := tw_4 (i := 149) rfl rfl
theorem ml_RX8_270 : Cond.methodLink RX8 270 yX8_chooses ∈ TW := tw_5 (i := 158) rfl rfl
theorem im_yX8_chooses : Cond.instanceMethod yX8_chooses ∈ TW := tw_5 (i := 160) rfl rfl
theorem se_X8_chooses : Cond.selects RX8 yX8_chooses yX8_chooses ∈ TW := tw_0 (i := 48) rfl rfl
theorem co_yX8_chooses : Cond.code yX8_chooses cX8_chooses 3 none ∈ TW := tw_5 (i := 161) rfl rfl
theorem ml_RX8_274 : Cond.methodLink RX8 274 yX8_goes ∈ TW := tw_5 (i := 162) rfl rfl
theorem im_yX8_goes : Cond.instanceMethod yX8_goes ∈ TW := tw_5 (i := 164) rfl rfl
theorem se_X8_goes : Cond.selects RX8 yX8_goes yX8_goes ∈ TW := tw_0 (i := 49) rfl rfl
theorem co_yX8_goes : Cond.code yX8_goes cX8_goes 4 none ∈ TW := tw_5 (i := 165) rfl rfl
theorem ck_RX8_245 : Cond.constantLong RX8 245 (-1) ∈ TW := tw_5 (i := 203) rfl rfl
theorem ml_RX8_238 : Cond.methodLink RX8 238 yX8_bends ∈ TW := tw_5 (i := 166) rfl rfl
theorem im_yX8_bends : Cond.instanceMethod yX8_bends ∈ TW := tw_5 (i := 168) rfl rfl
theorem se_X8_bends : Cond.selects RX8 yX8_bends yX8_bends ∈ TW := tw_0 (i := 50) rfl rfl
theorem co_yX8_bends : Cond.code yX8_bends cX8_bends 15 none ∈ TW := tw_5 (i := 169) rfl rfl
theorem ck_RX8_213 : Cond.constantLong RX8 213 (27720) ∈ TW := tw_5 (i := 187) rfl rfl
theorem fl_RX8_232 : Cond.fieldLink RX8 232 "ShaftLineModel" "determinant" "J" ∈ TW := tw_4 (i := 161) rfl rfl
theorem ml_RX8_218 : Cond.methodLink RX8 218 yX8_hangs ∈ TW := tw_5 (i := 170) rfl rfl
theorem im_yX8_hangs : Cond.instanceMethod yX8_hangs ∈ TW := tw_5 (i := 172) rfl rfl
theorem se_X8_hangs : Cond.selects RX8 yX8_hangs yX8_hangs ∈ TW := tw_0 (i := 51) rfl rfl
theorem co_yX8_hangs : Cond.code yX8_hangs cX8_hangs 7 (some .long) ∈ TW := tw_5 (i := 173) rfl rfl
theorem ml_RX8_222 : Cond.methodLink RX8 222 yX8_diagonal ∈ TW := tw_5 (i := 174) rfl rfl
theorem im_yX8_diagonal : Cond.instanceMethod yX8_diagonal ∈ TW := tw_5 (i := 176) rfl rfl
theorem se_X8_diagonal : Cond.selects RX8 yX8_diagonal yX8_diagonal ∈ TW := tw_0 (i := 52) rfl rfl
theorem co_yX8_diagonal : Cond.code yX8_diagonal cX8_diagonal 2 (some .long) ∈ TW := tw_5 (i := 177) rfl rfl
theorem ml_RX8_226 : Cond.methodLink RX8 226 yX8_side ∈ TW := tw_5 (i := 178) rfl rfl
theorem im_yX8_side : Cond.instanceMethod yX8_side ∈ TW := tw_5 (i := 180) rfl rfl
theorem se_X8_side : Cond.selects RX8 yX8_side yX8_side ∈ TW := tw_0 (i := 53) rfl rfl
theorem co_yX8_side : Cond.code yX8_side cX8_side 2 (some .long) ∈ TW := tw_5 (i := 181) rfl rfl
theorem ml_RX8_229 : Cond.methodLink RX8 229 yX8_right ∈ TW := tw_5 (i := 182) rfl rfl
theorem im_yX8_right : Cond.instanceMethod yX8_right ∈ TW := tw_5 (i := 184) rfl rfl
theorem se_X8_right : Cond.selects RX8 yX8_right yX8_right ∈ TW := tw_0 (i := 54) rfl rfl
theorem co_yX8_right : Cond.code yX8_right cX8_right 11 (some .long) ∈ TW := tw_5 (i := 185) rfl rfl
theorem ck_RX8_211 : Cond.constantLong RX8 211 (6) ∈ TW := tw_5 (i := 186) rfl rfl
theorem ml_RX8_205 : Cond.methodLink RX8 205 yX8_makes ∈ TW := tw_5 (i := 188) rfl rfl
theorem im_yX8_makes : Cond.instanceMethod yX8_makes ∈ TW := tw_5 (i := 190) rfl rfl
theorem se_X8_makes : Cond.selects RX8 yX8_makes yX8_makes ∈ TW := tw_0 (i := 55) rfl rfl
theorem co_yX8_makes : Cond.code yX8_makes cX8_makes 7 none ∈ TW := tw_5 (i := 191) rfl rfl
theorem ml_RX8_198 : Cond.methodLink RX8 198 yX8_common ∈ TW := tw_5 (i := 192) rfl rfl
theorem st_yX8_common : Cond.static yX8_common ∈ TW := tw_5 (i := 193) rfl rfl
theorem co_yX8_common : Cond.code yX8_common cX8_common 10 (some .long) ∈ TW := tw_5 (i := 194) rfl rfl
theorem ml_RX8_235 : Cond.methodLink RX8 235 yX8_adds ∈ TW := tw_5 (i := 195) rfl rfl
theorem im_yX8_adds : Cond.instanceMethod yX8_adds ∈ TW := tw_5 (i := 197) rfl rfl
theorem se_X8_adds : Cond.selects RX8 yX8_adds yX8_adds ∈ TW := tw_0 (i := 56) rfl rfl
theorem co_yX8_adds : Cond.code yX8_adds cX8_adds 7 none ∈ TW := tw_5 (i := 198) rfl rfl
theorem ml_RX8_241 : Cond.methodLink RX8 241 yX8_pushes ∈ TW := tw_5 (i := 199) rfl rfl
theorem im_yX8_pushes : Cond.instanceMethod yX8_pushes ∈ TW := tw_5 (i := 201) rfl rfl
theorem se_X8_pushes : Cond.selects RX8 yX8_pushes yX8_pushes ∈ TW := tw_0 (i := 57) rfl rfl
theorem co_yX8_pushes : Cond.code yX8_pushes cX8_pushes 10 none ∈ TW := tw_5 (i := 202) rfl rfl
theorem ml_RX8_277 : Cond.methodLink RX8 277 yX8_height ∈ TW := tw_5 (i := 204) rfl rfl
theorem im_yX8_height : Cond.instanceMethod yX8_height ∈ TW := tw_5 (i := 206) rfl rfl
theorem se_X8_height : Cond.selects RX8 yX8_height yX8_height ∈ TW := tw_0 (i := 58) rfl rfl
theorem co_yX8_height : Cond.code yX8_height cX8_height 10 none ∈ TW := tw_5 (i := 207) rfl rfl
theorem fl_RX8_251 : Cond.fieldLink RX8 251 "ShaftLineModel" "sumAbove" "J" ∈ TW := tw_4 (i := 162) rfl rfl
theorem fl_RX8_254 : Cond.fieldLink RX8 254 "ShaftLineModel" "sumBelow" "J" ∈ TW := tw_4 (i := 163) rfl rfl
theorem ml_RX8_261 : Cond.methodLink RX8 261 yX8_tilts ∈ TW := tw_5 (i := 208) rfl rfl
theorem im_yX8_tilts : Cond.instanceMethod yX8_tilts ∈ TW := tw_5 (i := 210) rfl rfl
theorem se_X8_tilts : Cond.selects RX8 yX8_tilts yX8_tilts ∈ TW := tw_0 (i := 59) rfl rfl
theorem co_yX8_tilts : Cond.code yX8_tilts cX8_tilts 5 none ∈ TW := tw_5 (i := 211) rfl rfl
theorem ml_RX8_257 : Cond.methodLink RX8 257 yX8_sums ∈ TW := tw_5 (i := 212) rfl rfl
theorem im_yX8_sums : Cond.instanceMethod yX8_sums ∈ TW := tw_5 (i := 214) rfl rfl
theorem se_X8_sums : Cond.selects RX8 yX8_sums yX8_sums ∈ TW := tw_0 (i := 60) rfl rfl
theorem co_yX8_sums : Cond.code yX8_sums cX8_sums 4 none ∈ TW := tw_5 (i := 215) rfl rfl
theorem ml_RX8_247 : Cond.methodLink RX8 247 yX8_cube ∈ TW := tw_5 (i := 216) rfl rfl
theorem st_yX8_cube : Cond.static yX8_cube ∈ TW := tw_5 (i := 217) rfl rfl
theorem co_yX8_cube : Cond.code yX8_cube cX8_cube 3 (some .long) ∈ TW := tw_5 (i := 218) rfl rfl
theorem ml_RX8_301 : Cond.methodLink RX8 301 yX8_loadOf ∈ TW := tw_5 (i := 220) rfl rfl
theorem im_yX8_loadOf : Cond.instanceMethod yX8_loadOf ∈ TW := tw_5 (i := 222) rfl rfl
theorem se_X8_loadOf : Cond.selects RX8 yX8_loadOf yX8_loadOf ∈ TW := tw_0 (i := 61) rfl rfl
theorem co_yX8_loadOf : Cond.code yX8_loadOf cX8_loadOf 5 none ∈ TW := tw_5 (i := 223) rfl rfl
theorem ml_RX8_305 : Cond.methodLink RX8 305 yX8_part ∈ TW := tw_5 (i := 224) rfl rfl
theorem im_yX8_part : Cond.instanceMethod yX8_part ∈ TW := tw_5 (i := 226) rfl rfl
theorem se_X8_part : Cond.selects RX8 yX8_part yX8_part ∈ TW := tw_0 (i := 62) rfl rfl
theorem co_yX8_part : Cond.code yX8_part cX8_part 2 (some .long) ∈ TW := tw_5 (i := 227) rfl rfl
theorem ml_RL_70 : Cond.methodLink RL 70 yX7_lifted ∈ TW := tw_3 (i := 162) rfl rfl
theorem im_yX7_lifted : Cond.instanceMethod yX7_lifted ∈ TW := tw_3 (i := 163) rfl rfl
theorem se_X7_lifted : Cond.selects RX7 yX7_lifted yX7_lifted ∈ TW := tw_3 (i := 164) rfl rfl
theorem co_yX7_lifted : Cond.code yX7_lifted cX7_lifted 4 (some .int) ∈ TW := tw_3 (i := 165) rfl rfl
theorem ml_RL_73 : Cond.methodLink RL 73 yX8_lifted ∈ TW := tw_5 (i := 228) rfl rfl
theorem im_yX8_lifted : Cond.instanceMethod yX8_lifted ∈ TW := tw_5 (i := 229) rfl rfl
theorem se_X8_lifted : Cond.selects RX8 yX8_lifted yX8_lifted ∈ TW := tw_5 (i := 230) rfl rfl
theorem co_yX8_lifted : Cond.code yX8_lifted cX8_lifted 5 (some .int) ∈ TW := tw_5 (i := 231) rfl rfl
theorem ml_RL_74 : Cond.methodLink RL 74 yX7_high ∈ TW := tw_3 (i := 166) rfl rfl
theorem im_yX7_high : Cond.instanceMethod yX7_high ∈ TW := tw_3 (i := 167) rfl rfl
theorem se_X7_high : Cond.selects RX7 yX7_high yX7_high ∈ TW := tw_3 (i := 168) rfl rfl
theorem co_yX7_high : Cond.code yX7_high cX7_high 4 (some .long) ∈ TW := tw_3 (i := 169) rfl rfl
theorem ml_RX7_206 : Cond.methodLink RX7 206 yX0_height ∈ TW := tw_3 (i := 170) rfl rfl
theorem ml_RX7_209 : Cond.methodLink RX7 209 yX0_heightBelow ∈ TW := tw_3 (i := 171) rfl rfl
theorem ml_RL_77 : Cond.methodLink RL 77 yX8_high ∈ TW := tw_5 (i := 232) rfl rfl
theorem im_yX8_high : Cond.instanceMethod yX8_high ∈ TW := tw_5 (i := 233) rfl rfl
theorem se_X8_high : Cond.selects RX8 yX8_high yX8_high ∈ TW := tw_5 (i := 234) rfl rfl
theorem co_yX8_high : Cond.code yX8_high cX8_high 4 (some .long) ∈ TW := tw_5 (i := 235) rfl rfl
theorem ml_RL_78 : Cond.methodLink RL 78 yX7_through ∈ TW := tw_3 (i := 172) rfl rfl
theorem im_yX7_through : Cond.instanceMethod yX7_through ∈ TW := tw_3 (i := 173) rfl rfl
theorem se_X7_through : Cond.selects RX7 yX7_through yX7_through ∈ TW := tw_3 (i := 174) rfl rfl
theorem co_yX7_through : Cond.code yX7_through cX7_through 4 (some .long) ∈ TW := tw_3 (i := 175) rfl rfl
theorem fl_RX7_217 : Cond.fieldLink RX7 217 "ShaftLine$Beam" "push" "[J" ∈ TW := tw_1 (i := 111) rfl rfl
theorem ml_RX7_213 : Cond.methodLink RX7 213 yX7_goesThrough ∈ TW := tw_3 (i := 176) rfl rfl
theorem im_yX7_goesThrough : Cond.instanceMethod yX7_goesThrough ∈ TW := tw_3 (i := 178) rfl rfl
theorem se_X7_goesThrough : Cond.selects RX7 yX7_goesThrough yX7_goesThrough ∈ TW := tw_0 (i := 26) rfl rfl
theorem co_yX7_goesThrough : Cond.code yX7_goesThrough cX7_goesThrough 6 (some .boolean) ∈ TW := tw_3 (i := 179) rfl rfl
theorem fl_RX7_327 : Cond.fieldLink RX7 327 "ShaftLine$Beam" "count" "I" ∈ TW := tw_1 (i := 106) rfl rfl
theorem ml_RX7_221 : Cond.methodLink RX7 221 yX0_start ∈ TW := tw_3 (i := 180) rfl rfl
theorem ml_RX7_224 : Cond.methodLink RX7 224 yX0_add ∈ TW := tw_3 (i := 181) rfl rfl
theorem ml_RX7_228 : Cond.methodLink RX7 228 yX0_carry ∈ TW := tw_3 (i := 182) rfl rfl
theorem ml_RX7_232 : Cond.methodLink RX7 232 yX0_solve ∈ TW := tw_3 (i := 183) rfl rfl
theorem ml_RL_81 : Cond.methodLink RL 81 yX8_through ∈ TW := tw_5 (i := 236) rfl rfl
theorem im_yX8_through : Cond.instanceMethod yX8_through ∈ TW := tw_5 (i := 237) rfl rfl
theorem se_X8_through : Cond.selects RX8 yX8_through yX8_through ∈ TW := tw_5 (i := 238) rfl rfl
theorem co_yX8_through : Cond.code yX8_through cX8_through 4 (some .long) ∈ TW := tw_5 (i := 239) rfl rfl
theorem ml_RL_82 : Cond.methodLink RL 82 yX7_table ∈ TW := tw_3 (i := 184) rfl rfl
theorem im_yX7_table : Cond.instanceMethod yX7_table ∈ TW := tw_3 (i := 185) rfl rfl
theorem se_X7_table : Cond.selects RX7 yX7_table yX7_table ∈ TW := tw_3 (i := 186) rfl rfl
theorem co_yX7_table : Cond.code yX7_table cX7_table 5 (some .long) ∈ TW := tw_3 (i := 187) rfl rfl
theorem ml_RL_85 : Cond.methodLink RL 85 yX8_table ∈ TW := tw_6 (i := 0) rfl rfl
theorem im_yX8_table : Cond.instanceMethod yX8_table ∈ TW := tw_6 (i := 1) rfl rfl
theorem se_X8_table : Cond.selects RX8 yX8_table yX8_table ∈ TW := tw_6 (i := 2) rfl rfl
theorem co_yX8_table : Cond.code yX8_table cX8_table 5 (some .long) ∈ TW := tw_6 (i := 3) rfl rfl
theorem ml_RL_86 : Cond.methodLink RL 86 yX7_coupling ∈ TW := tw_3 (i := 188) rfl rfl
theorem im_yX7_coupling : Cond.instanceMethod yX7_coupling ∈ TW := tw_3 (i := 189) rfl rfl
theorem se_X7_coupling : Cond.selects RX7 yX7_coupling yX7_coupling ∈ TW := tw_3 (i := 190) rfl rfl
theorem co_yX7_coupling : Cond.code yX7_coupling cX7_coupling 5 (some .long) ∈ TW := tw_3 (i := 191) rfl rfl
theorem ck_RX7_235 : Cond.constantLong RX7 235 (10) ∈ TW := tw_3 (i := 192) rfl rfl
theorem ml_RX7_237 : Cond.methodLink RX7 237 yX0_slope ∈ TW := tw_3 (i := 193) rfl rfl
theorem im_yX0_slope : Cond.instanceMethod yX0_slope ∈ TW := tw_3 (i := 194) rfl rfl
theorem se_X0_slope : Cond.selects RX0 yX0_slope yX0_slope ∈ TW := tw_3 (i := 195) rfl rfl
theorem co_yX0_slope : Cond.code yX0_slope cX0_slope 7 (some .long) ∈ TW := tw_3 (i := 196) rfl rfl
theorem ml_RX7_240 : Cond.methodLink RX7 240 yX1_takeAway ∈ TW := tw_3 (i := 197) rfl rfl
theorem im_yX1_takeAway : Cond.instanceMethod yX1_takeAway ∈ TW := tw_3 (i := 198) rfl rfl
theorem se_X1_takeAway : Cond.selects RX1 yX1_takeAway yX1_takeAway ∈ TW := tw_3 (i := 199) rfl rfl
theorem co_yX1_takeAway : Cond.code yX1_takeAway cX1_takeAway 6 none ∈ TW := tw_3 (i := 200) rfl rfl
theorem ml_RX1_25 : Cond.methodLink RX1 25 yX1_become ∈ TW := tw_3 (i := 201) rfl rfl
theorem ml_RL_90 : Cond.methodLink RL 90 yX8_coupling ∈ TW := tw_6 (i := 4) rfl rfl
theorem im_yX8_coupling : Cond.instanceMethod yX8_coupling ∈ TW := tw_6 (i := 5) rfl rfl
theorem se_X8_coupling : Cond.selects RX8 yX8_coupling yX8_coupling ∈ TW := tw_6 (i := 6) rfl rfl
theorem co_yX8_coupling : Cond.code yX8_coupling cX8_coupling 9 (some .long) ∈ TW := tw_6 (i := 7) rfl rfl
theorem ml_RX8_313 : Cond.methodLink RX8 313 yX8_isPart ∈ TW := tw_6 (i := 8) rfl rfl
theorem im_yX8_isPart : Cond.instanceMethod yX8_isPart ∈ TW := tw_6 (i := 10) rfl rfl
theorem se_X8_isPart : Cond.selects RX8 yX8_isPart yX8_isPart ∈ TW := tw_0 (i := 63) rfl rfl
theorem co_yX8_isPart : Cond.code yX8_isPart cX8_isPart 6 (some .boolean) ∈ TW := tw_6 (i := 11) rfl rfl
theorem ml_RX8_317 : Cond.methodLink RX8 317 yX8_endOf ∈ TW := tw_6 (i := 12) rfl rfl
theorem im_yX8_endOf : Cond.instanceMethod yX8_endOf ∈ TW := tw_6 (i := 14) rfl rfl
theorem se_X8_endOf : Cond.selects RX8 yX8_endOf yX8_endOf ∈ TW := tw_0 (i := 64) rfl rfl
theorem co_yX8_endOf : Cond.code yX8_endOf cX8_endOf 3 none ∈ TW := tw_6 (i := 15) rfl rfl
theorem ck_RX8_311 : Cond.constantLong RX8 311 (10) ∈ TW := tw_6 (i := 20) rfl rfl
theorem ml_RX8_308 : Cond.methodLink RX8 308 yX8_slope ∈ TW := tw_6 (i := 16) rfl rfl
theorem im_yX8_slope : Cond.instanceMethod yX8_slope ∈ TW := tw_6 (i := 18) rfl rfl
theorem se_X8_slope : Cond.selects RX8 yX8_slope yX8_slope ∈ TW := tw_0 (i := 65) rfl rfl
theorem co_yX8_slope : Cond.code yX8_slope cX8_slope 6 none ∈ TW := tw_6 (i := 19) rfl rfl
theorem ml_RL_91 : Cond.methodLink RL 91 yX7_jack ∈ TW := tw_3 (i := 202) rfl rfl
theorem im_yX7_jack : Cond.instanceMethod yX7_jack ∈ TW := tw_3 (i := 203) rfl rfl
theorem se_X7_jack : Cond.selects RX7 yX7_jack yX7_jack ∈ TW := tw_3 (i := 204) rfl rfl
theorem co_yX7_jack : Cond.code yX7_jack cX7_jack 6 (some .long) ∈ TW := tw_3 (i := 205) rfl rfl
theorem ml_RX7_244 : Cond.methodLink RX7 244 yX2_bearingsBelow ∈ TW := tw_3 (i := 206) rfl rfl
theorem ml_RL_94 : Cond.methodLink RL 94 yX8_jack ∈ TW := tw_6 (i := 21) rfl rfl
theorem im_yX8_jack : Cond.instanceMethod yX8_jack ∈ TW := tw_6 (i := 22) rfl rfl
theorem se_X8_jack : Cond.selects RX8 yX8_jack yX8_jack ∈ TW := tw_6 (i := 23) rfl rfl
theorem co_yX8_jack : Cond.code yX8_jack cX8_jack 6 (some .long) ∈ TW := tw_6 (i := 24) rfl rfl
theorem ck_RX8_320 : Cond.constantLong RX8 320 (-90) ∈ TW := tw_6 (i := 25) rfl rfl
theorem ck_RX8_322 : Cond.constantLong RX8 322 (90) ∈ TW := tw_6 (i := 26) rfl rfl
theorem ml_RL_95 : Cond.methodLink RL 95 yX7_bounds ∈ TW := tw_3 (i := 207) rfl rfl
theorem im_yX7_bounds : Cond.instanceMethod yX7_bounds ∈ TW := tw_3 (i := 208) rfl rfl
theorem se_X7_bounds : Cond.selects RX7 yX7_bounds yX7_bounds ∈ TW := tw_3 (i := 209) rfl rfl
theorem co_yX7_bounds : Cond.code yX7_bounds cX7_bounds 3 (some .int) ∈ TW := tw_3 (i := 210) rfl rfl
theorem ml_RL_98 : Cond.methodLink RL 98 yX8_bounds ∈ TW := tw_6 (i := 27) rfl rfl
theorem im_yX8_bounds : Cond.instanceMethod yX8_bounds ∈ TW := tw_6 (i := 28) rfl rfl
theorem se_X8_bounds : Cond.selects RX8 yX8_bounds yX8_bounds ∈ TW := tw_6 (i := 29) rfl rfl
theorem co_yX8_bounds : Cond.code yX8_bounds cX8_bounds 3 (some .int) ∈ TW := tw_6 (i := 30) rfl rfl
theorem ck_RX8_324 : Cond.constantLong RX8 324 (600) ∈ TW := tw_6 (i := 31) rfl rfl
theorem fl_RX8_326 : Cond.fieldLink RX8 326 "ShaftLineModel" "low" "I" ∈ TW := tw_4 (i := 169) rfl rfl
theorem ml_RL_99 : Cond.methodLink RL 99 yX7_fits ∈ TW := tw_3 (i := 211) rfl rfl
theorem im_yX7_fits : Cond.instanceMethod yX7_fits ∈ TW := tw_3 (i := 212) rfl rfl
theorem se_X7_fits : Cond.selects RX7 yX7_fits yX7_fits ∈ TW := tw_3 (i := 213) rfl rfl
theorem co_yX7_fits : Cond.code yX7_fits cX7_fits 3 (some .int) ∈ TW := tw_3 (i := 214) rfl rfl
theorem ml_RX7_261 : Cond.methodLink RX7 261 yX7_isWithinBounds ∈ TW := tw_3 (i := 215) rfl rfl
theorem im_yX7_isWithinBounds : Cond.instanceMethod yX7_isWithinBounds ∈ TW := tw_3 (i := 217) rfl rfl
theorem se_X7_isWithinBounds : Cond.selects RX7 yX7_isWithinBounds yX7_isWithinBounds ∈ TW := tw_0 (i := 27) rfl rfl
theorem co_yX7_isWithinBounds : Cond.code yX7_isWithinBounds cX7_isWithinBounds 6 (some .boolean) ∈ TW := tw_3 (i := 218) rfl rfl
theorem ml_RL_102 : Cond.methodLink RL 102 yX8_fits ∈ TW := tw_6 (i := 32) rfl rfl
theorem im_yX8_fits : Cond.instanceMethod yX8_fits ∈ TW := tw_6 (i := 33) rfl rfl
theorem se_X8_fits : Cond.selects RX8 yX8_fits yX8_fits ∈ TW := tw_6 (i := 34) rfl rfl
theorem co_yX8_fits : Cond.code yX8_fits cX8_fits 2 (some .int) ∈ TW := tw_6 (i := 35) rfl rfl
theorem ck_RX8_329 : Cond.constantLong RX8 329 (15) ∈ TW := tw_6 (i := 36) rfl rfl
theorem ml_RX8_331 : Cond.methodLink RX8 331 yX8_isFit ∈ TW := tw_6 (i := 37) rfl rfl
theorem im_yX8_isFit : Cond.instanceMethod yX8_isFit ∈ TW := tw_6 (i := 39) rfl rfl
theorem se_X8_isFit : Cond.selects RX8 yX8_isFit yX8_isFit ∈ TW := tw_0 (i := 66) rfl rfl
theorem co_yX8_isFit : Cond.code yX8_isFit cX8_isFit 5 (some .boolean) ∈ TW := tw_6 (i := 40) rfl rfl
theorem ml_RL_103 : Cond.methodLink RL 103 yX7_plan ∈ TW := tw_3 (i := 219) rfl rfl
theorem im_yX7_plan : Cond.instanceMethod yX7_plan ∈ TW := tw_3 (i := 220) rfl rfl
theorem se_X7_plan : Cond.selects RX7 yX7_plan yX7_plan ∈ TW := tw_3 (i := 221) rfl rfl
theorem co_yX7_plan : Cond.code yX7_plan cX7_plan 2 (some .int) ∈ TW := tw_3 (i := 222) rfl rfl
theorem fl_RX7_267 : Cond.fieldLink RX7 267 "ShaftLine$Planner" "moved" "I" ∈ TW := tw_1 (i := 196) rfl rfl
theorem ml_RX7_264 : Cond.methodLink RX7 264 yX7_makePlan ∈ TW := tw_3 (i := 223) rfl rfl
theorem im_yX7_makePlan : Cond.instanceMethod yX7_makePlan ∈ TW := tw_3 (i := 225) rfl rfl
theorem se_X7_makePlan : Cond.selects RX7 yX7_makePlan yX7_makePlan ∈ TW := tw_0 (i := 28) rfl rfl
theorem co_yX7_makePlan : Cond.code yX7_makePlan cX7_makePlan 3 none ∈ TW := tw_3 (i := 226) rfl rfl
theorem ml_RX7_328 : Cond.methodLink RX7 328 yX3_start ∈ TW := tw_3 (i := 227) rfl rfl
theorem im_yX3_start : Cond.instanceMethod yX3_start ∈ TW := tw_3 (i := 228) rfl rfl
theorem se_X3_start : Cond.selects RX3 yX3_start yX3_start ∈ TW := tw_3 (i := 229) rfl rfl
theorem co_yX3_start : Cond.code yX3_start cX3_start 4 none ∈ TW := tw_3 (i := 230) rfl rfl
theorem ml_RX7_331 : Cond.methodLink RX7 331 yX3_mayPlan ∈ TW := tw_3 (i := 231) rfl rfl
theorem im_yX3_mayPlan : Cond.instanceMethod yX3_mayPlan ∈ TW := tw_3 (i := 232) rfl rfl
theorem se_X3_mayPlan : Cond.selects RX3 yX3_mayPlan yX3_mayPlan ∈ TW := tw_3 (i := 233) rfl rfl
theorem co_yX3_mayPlan : Cond.code yX3_mayPlan cX3_mayPlan 1 (some .boolean) ∈ TW := tw_3 (i := 234) rfl rfl
theorem fl_RX3_61 : Cond.fieldLink RX3 61 "ShaftLine$Line" "count" "I" ∈ TW := tw_1 (i := 29) rfl rfl
theorem ml_RX7_334 : Cond.methodLink RX7 334 yX3_prepareSets ∈ TW := tw_3 (i := 235) rfl rfl
theorem im_yX3_prepareSets : Cond.instanceMethod yX3_prepareSets ∈ TW := tw_3 (i := 236) rfl rfl
theorem se_X3_prepareSets : Cond.selects RX3 yX3_prepareSets yX3_prepareSets ∈ TW := tw_3 (i := 237) rfl rfl
theorem co_yX3_prepareSets : Cond.code yX3_prepareSets cX3_prepareSets 4 none ∈ TW := tw_3 (i := 238) rfl rfl
theorem fl_RX3_72 : Cond.fieldLink RX3 72 "ShaftLine$Line" "stiffness" "I" ∈ TW := tw_1 (i := 47) rfl rfl
theorem fl_RX3_81 : Cond.fieldLink RX3 81 "ShaftLine$Line" "place" "[I" ∈ TW := tw_1 (i := 32) rfl rfl
theorem ml_RX3_66 : Cond.methodLink RX3 66 yJ6_bitCount_0f7a4 ∈ TW := tw_3 (i := 239) rfl rfl
theorem ml_RX3_75 : Cond.methodLink RX3 75 yX5_start ∈ TW := tw_4 (i := 0) rfl rfl
theorem ml_RX3_84 : Cond.methodLink RX3 84 yX5_put ∈ TW := tw_4 (i := 1) rfl rfl
theorem ml_RX3_88 : Cond.methodLink RX3 88 yX5_lay ∈ TW := tw_4 (i := 2) rfl rfl
theorem ml_RX3_92 : Cond.methodLink RX3 92 yX3_keepMargins ∈ TW := tw_4 (i := 3) rfl rfl
theorem im_yX3_keepMargins : Cond.instanceMethod yX3_keepMargins ∈ TW := tw_4 (i := 5) rfl rfl
theorem se_X3_keepMargins : Cond.selects RX3 yX3_keepMargins yX3_keepMargins ∈ TW := tw_0 (i := 29) rfl rfl
theorem co_yX3_keepMargins : Cond.code yX3_keepMargins cX3_keepMargins 6 none ∈ TW := tw_4 (i := 6) rfl rfl
theorem fl_RX3_102 : Cond.fieldLink RX3 102 "ShaftLine$Rest" "beam" "LShaftLine$Beam;" ∈ TW := tw_1 (i := 172) rfl rfl
theorem fl_RX3_106 : Cond.fieldLink RX3 106 "ShaftLine$Beam" "below" "J" ∈ TW := tw_1 (i := 113) rfl rfl
theorem ml_RX3_111 : Cond.methodLink RX3 111 yX5_marginOf ∈ TW := tw_4 (i := 7) rfl rfl
theorem ml_RX3_115 : Cond.methodLink RX3 115 yX5_isMember ∈ TW := tw_4 (i := 8) rfl rfl
theorem im_yX5_isMember : Cond.instanceMethod yX5_isMember ∈ TW := tw_4 (i := 9) rfl rfl
theorem se_X5_isMember : Cond.selects RX5 yX5_isMember yX5_isMember ∈ TW := tw_4 (i := 10) rfl rfl
theorem co_yX5_isMember : Cond.code yX5_isMember cX5_isMember 2 (some .boolean) ∈ TW := tw_4 (i := 11) rfl rfl
theorem ml_RX7_338 : Cond.methodLink RX7 338 yX3_prepareState ∈ TW := tw_4 (i := 12) rfl rfl
theorem im_yX3_prepareState : Cond.instanceMethod yX3_prepareState ∈ TW := tw_4 (i := 13) rfl rfl
theorem se_X3_prepareState : Cond.selects RX3 yX3_prepareState yX3_prepareState ∈ TW := tw_4 (i := 14) rfl rfl
theorem co_yX3_prepareState : Cond.code yX3_prepareState cX3_prepareState 5 none ∈ TW := tw_4 (i := 15) rfl rfl
theorem fl_RX3_96 : Cond.fieldLink RX3 96 "ShaftLine$Line" "weight" "[I" ∈ TW := tw_1 (i := 42) rfl rfl
theorem fl_RX3_99 : Cond.fieldLink RX3 99 "ShaftLine$Line" "offset" "[I" ∈ TW := tw_1 (i := 36) rfl rfl
theorem ml_RX7_342 : Cond.methodLink RX7 342 yX3_search ∈ TW := tw_4 (i := 16) rfl rfl
theorem im_yX3_search : Cond.instanceMethod yX3_search ∈ TW := tw_4 (i := 17) rfl rfl
theorem se_X3_search : Cond.selects RX3 yX3_search yX3_search ∈ TW := tw_4 (i := 18) rfl rfl
theorem co_yX3_search : Cond.code yX3_search cX3_search 4 none ∈ TW := tw_4 (i := 19) rfl rfl
theorem ml_RX3_119 : Cond.methodLink RX3 119 yX3_takeMoves ∈ TW := tw_4 (i := 20) rfl rfl
theorem im_yX3_takeMoves : Cond.instanceMethod yX3_takeMoves ∈ TW := tw_4 (i := 22) rfl rfl
theorem se_X3_takeMoves : Cond.selects RX3 yX3_takeMoves yX3_takeMoves ∈ TW := tw_0 (i := 30) rfl rfl
theorem co_yX3_takeMoves : Cond.code yX3_takeMoves cX3_takeMoves 6 (some .boolean) ∈ TW := tw_4 (i := 23) rfl rfl
theorem ml_RX3_128 : Cond.methodLink RX3 128 Lib.Math.abs.name ∈ TW := tw_4 (i := 24) rfl rfl
theorem st_Lib_Math_abs_name : Cond.static Lib.Math.abs.name ∈ TW := tw_4 (i := 25) rfl rfl
theorem co_Lib_Math_abs_name : Cond.code Lib.Math.abs.name Lib.Math.abs.code 1 (some .int) ∈ TW := tw_4 (i := 26) rfl rfl
theorem ml_RX3_122 : Cond.methodLink RX3 122 yX3_fitsInAll ∈ TW := tw_4 (i := 27) rfl rfl
theorem im_yX3_fitsInAll : Cond.instanceMethod yX3_fitsInAll ∈ TW := tw_4 (i := 29) rfl rfl
theorem se_X3_fitsInAll : Cond.selects RX3 yX3_fitsInAll yX3_fitsInAll ∈ TW := tw_0 (i := 31) rfl rfl
theorem co_yX3_fitsInAll : Cond.code yX3_fitsInAll cX3_fitsInAll 3 (some .boolean) ∈ TW := tw_4 (i := 30) rfl rfl
theorem ml_RX3_133 : Cond.methodLink RX3 133 yX3_fitsIn ∈ TW := tw_4 (i := 31) rfl rfl
theorem im_yX3_fitsIn : Cond.instanceMethod yX3_fitsIn ∈ TW := tw_4 (i := 33) rfl rfl
theorem se_X3_fitsIn : Cond.selects RX3 yX3_fitsIn yX3_fitsIn ∈ TW := tw_0 (i := 32) rfl rfl
theorem co_yX3_fitsIn : Cond.code yX3_fitsIn cX3_fitsIn 3 (some .boolean) ∈ TW := tw_4 (i := 34) rfl rfl
theorem ml_RX3_136 : Cond.methodLink RX3 136 yX3_holds ∈ TW := tw_4 (i := 35) rfl rfl
theorem im_yX3_holds : Cond.instanceMethod yX3_holds ∈ TW := tw_4 (i := 37) rfl rfl
theorem se_X3_holds : Cond.selects RX3 yX3_holds yX3_holds ∈ TW := tw_0 (i := 33) rfl rfl
theorem co_yX3_holds : Cond.code yX3_holds cX3_holds 7 (some .boolean) ∈ TW := tw_4 (i := 38) rfl rfl
theorem ml_RX3_140 : Cond.methodLink RX3 140 yX3_isWithinBounds ∈ TW := tw_4 (i := 39) rfl rfl
theorem im_yX3_isWithinBounds : Cond.instanceMethod yX3_isWithinBounds ∈ TW := tw_4 (i := 41) rfl rfl
theorem se_X3_isWithinBounds : Cond.selects RX3 yX3_isWithinBounds yX3_isWithinBounds ∈ TW := tw_0 (i := 34) rfl rfl
theorem co_yX3_isWithinBounds : Cond.code yX3_isWithinBounds cX3_isWithinBounds 5 (some .boolean) ∈ TW := tw_4 (i := 42) rfl rfl
theorem ml_RX3_125 : Cond.methodLink RX3 125 yX3_keepMoves ∈ TW := tw_4 (i := 43) rfl rfl
theorem im_yX3_keepMoves : Cond.instanceMethod yX3_keepMoves ∈ TW := tw_4 (i := 45) rfl rfl
theorem se_X3_keepMoves : Cond.selects RX3 yX3_keepMoves yX3_keepMoves ∈ TW := tw_0 (i := 35) rfl rfl
theorem co_yX3_keepMoves : Cond.code yX3_keepMoves cX3_keepMoves 2 none ∈ TW := tw_4 (i := 46) rfl rfl
theorem ml_RL_106 : Cond.methodLink RL 106 yX8_plan ∈ TW := tw_6 (i := 41) rfl rfl
theorem im_yX8_plan : Cond.instanceMethod yX8_plan ∈ TW := tw_6 (i := 42) rfl rfl
theorem se_X8_plan : Cond.selects RX8 yX8_plan yX8_plan ∈ TW := tw_6 (i := 43) rfl rfl
theorem co_yX8_plan : Cond.code yX8_plan cX8_plan 2 (some .int) ∈ TW := tw_6 (i := 44) rfl rfl
theorem ml_RX8_334 : Cond.methodLink RX8 334 yX8_plans ∈ TW := tw_6 (i := 45) rfl rfl
theorem im_yX8_plans : Cond.instanceMethod yX8_plans ∈ TW := tw_6 (i := 47) rfl rfl
theorem se_X8_plans : Cond.selects RX8 yX8_plans yX8_plans ∈ TW := tw_0 (i := 67) rfl rfl
theorem co_yX8_plans : Cond.code yX8_plans cX8_plans 12 (some .int) ∈ TW := tw_6 (i := 48) rfl rfl
theorem ml_RL_107 : Cond.methodLink RL 107 yX7_move ∈ TW := tw_4 (i := 47) rfl rfl
theorem im_yX7_move : Cond.instanceMethod yX7_move ∈ TW := tw_4 (i := 48) rfl rfl
theorem se_X7_move : Cond.selects RX7 yX7_move yX7_move ∈ TW := tw_4 (i := 49) rfl rfl
theorem co_yX7_move : Cond.code yX7_move cX7_move 3 (some .int) ∈ TW := tw_4 (i := 50) rfl rfl
theorem fl_RX7_270 : Cond.fieldLink RX7 270 "ShaftLine$Planner" "best" "[I" ∈ TW := tw_1 (i := 198) rfl rfl
theorem ml_RL_110 : Cond.methodLink RL 110 yX8_move ∈ TW := tw_6 (i := 49) rfl rfl
theorem im_yX8_move : Cond.instanceMethod yX8_move ∈ TW := tw_6 (i := 50) rfl rfl
theorem se_X8_move : Cond.selects RX8 yX8_move yX8_move ∈ TW := tw_6 (i := 51) rfl rfl
theorem co_yX8_move : Cond.code yX8_move cX8_move 3 (some .int) ∈ TW := tw_6 (i := 52) rfl rfl
theorem ml_RL_111 : Cond.methodLink RL 111 yX7_reading ∈ TW := tw_4 (i := 51) rfl rfl
theorem im_yX7_reading : Cond.instanceMethod yX7_reading ∈ TW := tw_4 (i := 52) rfl rfl
theorem se_X7_reading : Cond.selects RX7 yX7_reading yX7_reading ∈ TW := tw_4 (i := 53) rfl rfl
theorem co_yX7_reading : Cond.code yX7_reading cX7_reading 4 (some .int) ∈ TW := tw_4 (i := 54) rfl rfl
theorem ml_RL_114 : Cond.methodLink RL 114 yX8_reading ∈ TW := tw_6 (i := 53) rfl rfl
theorem im_yX8_reading : Cond.instanceMethod yX8_reading ∈ TW := tw_6 (i := 54) rfl rfl
theorem se_X8_reading : Cond.selects RX8 yX8_reading yX8_reading ∈ TW := tw_6 (i := 55) rfl rfl
theorem co_yX8_reading : Cond.code yX8_reading cX8_reading 4 (some .int) ∈ TW := tw_6 (i := 56) rfl rfl
theorem ml_RL_115 : Cond.methodLink RL 115 yX7_closes ∈ TW := tw_4 (i := 55) rfl rfl
theorem im_yX7_closes : Cond.instanceMethod yX7_closes ∈ TW := tw_4 (i := 56) rfl rfl
theorem se_X7_closes : Cond.selects RX7 yX7_closes yX7_closes ∈ TW := tw_4 (i := 57) rfl rfl
theorem co_yX7_closes : Cond.code yX7_closes cX7_closes 2 (some .int) ∈ TW := tw_4 (i := 58) rfl rfl
theorem ml_RX7_273 : Cond.methodLink RX7 273 yX2_missing ∈ TW := tw_4 (i := 59) rfl rfl
theorem im_yX2_missing : Cond.instanceMethod yX2_missing ∈ TW := tw_4 (i := 60) rfl rfl
theorem se_X2_missing : Cond.selects RX2 yX2_missing yX2_missing ∈ TW := tw_4 (i := 61) rfl rfl
theorem co_yX2_missing : Cond.code yX2_missing cX2_missing 3 (some .int) ∈ TW := tw_4 (i := 62) rfl rfl
theorem ml_RX2_49 : Cond.methodLink RX2 49 yX2_allWeights ∈ TW := tw_4 (i := 63) rfl rfl
theorem ml_RX7_276 : Cond.methodLink RX7 276 yX2_missingMoment ∈ TW := tw_4 (i := 64) rfl rfl
theorem im_yX2_missingMoment : Cond.instanceMethod yX2_missingMoment ∈ TW := tw_4 (i := 65) rfl rfl
theorem se_X2_missingMoment : Cond.selects RX2 yX2_missingMoment yX2_missingMoment ∈ TW := tw_4 (i := 66) rfl rfl
theorem co_yX2_missingMoment : Cond.code yX2_missingMoment cX2_missingMoment 3 (some .int) ∈ TW := tw_4 (i := 67) rfl rfl
theorem ml_RX7_279 : Cond.methodLink RX7 279 yX2_isWrong ∈ TW := tw_4 (i := 68) rfl rfl
theorem im_yX2_isWrong : Cond.instanceMethod yX2_isWrong ∈ TW := tw_4 (i := 69) rfl rfl
theorem se_X2_isWrong : Cond.selects RX2 yX2_isWrong yX2_isWrong ∈ TW := tw_4 (i := 70) rfl rfl
theorem co_yX2_isWrong : Cond.code yX2_isWrong cX2_isWrong 3 (some .boolean) ∈ TW := tw_4 (i := 71) rfl rfl
theorem ml_RX2_53 : Cond.methodLink RX2 53 yX2_missing ∈ TW := tw_4 (i := 72) rfl rfl
theorem ml_RX2_56 : Cond.methodLink RX2 56 yX2_missingMoment ∈ TW := tw_4 (i := 73) rfl rfl
theorem ml_RL_118 : Cond.methodLink RL 118 yX8_closes ∈ TW := tw_6 (i := 57) rfl rfl
theorem im_yX8_closes : Cond.instanceMethod yX8_closes ∈ TW := tw_6 (i := 58) rfl rfl
theorem se_X8_closes : Cond.selects RX8 yX8_closes yX8_closes ∈ TW := tw_6 (i := 59) rfl rfl
theorem co_yX8_closes : Cond.code yX8_closes cX8_closes 2 (some .int) ∈ TW := tw_6 (i := 60) rfl rfl
theorem ml_RX8_337 : Cond.methodLink RX8 337 yX8_lacks ∈ TW := tw_6 (i := 61) rfl rfl
theorem im_yX8_lacks : Cond.instanceMethod yX8_lacks ∈ TW := tw_6 (i := 63) rfl rfl
theorem se_X8_lacks : Cond.selects RX8 yX8_lacks yX8_lacks ∈ TW := tw_0 (i := 68) rfl rfl
theorem co_yX8_lacks : Cond.code yX8_lacks cX8_lacks 4 (some .int) ∈ TW := tw_6 (i := 64) rfl rfl
theorem ml_RX8_340 : Cond.methodLink RX8 340 yX8_isWrong ∈ TW := tw_6 (i := 65) rfl rfl
theorem im_yX8_isWrong : Cond.instanceMethod yX8_isWrong ∈ TW := tw_6 (i := 67) rfl rfl
theorem se_X8_isWrong : Cond.selects RX8 yX8_isWrong yX8_isWrong ∈ TW := tw_0 (i := 69) rfl rfl
theorem co_yX8_isWrong : Cond.code yX8_isWrong cX8_isWrong 3 (some .boolean) ∈ TW := tw_6 (i := 68) rfl rfl
theorem ml_RL_119 : Cond.methodLink RL 119 yX7_mended ∈ TW := tw_4 (i := 74) rfl rfl
theorem im_yX7_mended : Cond.instanceMethod yX7_mended ∈ TW := tw_4 (i := 75) rfl rfl
theorem se_X7_mended : Cond.selects RX7 yX7_mended yX7_mended ∈ TW := tw_4 (i := 76) rfl rfl
theorem co_yX7_mended : Cond.code yX7_mended cX7_mended 2 (some .int) ∈ TW := tw_4 (i := 77) rfl rfl
theorem ml_RL_122 : Cond.methodLink RL 122 yX8_mended ∈ TW := tw_6 (i := 69) rfl rfl
theorem im_yX8_mended : Cond.instanceMethod yX8_mended ∈ TW := tw_6 (i := 70) rfl rfl
theorem se_X8_mended : Cond.selects RX8 yX8_mended yX8_mended ∈ TW := tw_6 (i := 71) rfl rfl
theorem co_yX8_mended : Cond.code yX8_mended cX8_mended 2 (some .int) ∈ TW := tw_6 (i := 72) rfl rfl
theorem ml_RL_123 : Cond.methodLink RL 123 yX7_run ∈ TW := tw_4 (i := 78) rfl rfl
theorem im_yX7_run : Cond.instanceMethod yX7_run ∈ TW := tw_4 (i := 79) rfl rfl
theorem se_X7_run : Cond.selects RX7 yX7_run yX7_run ∈ TW := tw_4 (i := 80) rfl rfl
theorem co_yX7_run : Cond.code yX7_run cX7_run 5 (some .int) ∈ TW := tw_4 (i := 81) rfl rfl
theorem ml_RX7_282 : Cond.methodLink RX7 282 yX7_cut ∈ TW := tw_4 (i := 82) rfl rfl
theorem ml_RX7_286 : Cond.methodLink RX7 286 yX2_wears ∈ TW := tw_4 (i := 83) rfl rfl
theorem im_yX2_wears : Cond.instanceMethod yX2_wears ∈ TW := tw_4 (i := 84) rfl rfl
theorem se_X2_wears : Cond.selects RX2 yX2_wears yX2_wears ∈ TW := tw_4 (i := 85) rfl rfl
theorem co_yX2_wears : Cond.code yX2_wears cX2_wears 5 (some .boolean) ∈ TW := tw_4 (i := 86) rfl rfl
theorem ck_RX2_59 : Cond.constantLong RX2 59 (10000) ∈ TW := tw_4 (i := 87) rfl rfl
theorem ml_RX2_65 : Cond.methodLink RX2 65 Lib.Math.max.name ∈ TW := tw_4 (i := 89) rfl rfl
theorem st_Lib_Math_max_name : Cond.static Lib.Math.max.name ∈ TW := tw_4 (i := 90) rfl rfl
theorem co_Lib_Math_max_name : Cond.code Lib.Math.max.name Lib.Math.max.code 2 (some .int) ∈ TW := tw_4 (i := 91) rfl rfl
theorem ml_RL_126 : Cond.methodLink RL 126 yX8_run ∈ TW := tw_6 (i := 73) rfl rfl
theorem im_yX8_run : Cond.instanceMethod yX8_run ∈ TW := tw_6 (i := 74) rfl rfl
theorem se_X8_run : Cond.selects RX8 yX8_run yX8_run ∈ TW := tw_6 (i := 75) rfl rfl
theorem co_yX8_run : Cond.code yX8_run cX8_run 6 (some .int) ∈ TW := tw_6 (i := 76) rfl rfl
theorem ck_RX8_343 : Cond.constantLong RX8 343 (1000) ∈ TW := tw_6 (i := 77) rfl rfl
theorem ml_RL_127 : Cond.methodLink RL 127 yX7_whirl ∈ TW := tw_4 (i := 92) rfl rfl
theorem im_yX7_whirl : Cond.instanceMethod yX7_whirl ∈ TW := tw_4 (i := 93) rfl rfl
theorem se_X7_whirl : Cond.selects RX7 yX7_whirl yX7_whirl ∈ TW := tw_4 (i := 94) rfl rfl
theorem co_yX7_whirl : Cond.code yX7_whirl cX7_whirl 8 (some .int) ∈ TW := tw_4 (i := 95) rfl rfl
theorem ck_RX7_290 : Cond.constantLong RX7 290 (-1000) ∈ TW := tw_4 (i := 96) rfl rfl
theorem ck_RX7_292 : Cond.constantLong RX7 292 (1000000) ∈ TW := tw_4 (i := 97) rfl rfl
theorem ml_RL_130 : Cond.methodLink RL 130 yX8_whirl ∈ TW := tw_6 (i := 78) rfl rfl
theorem im_yX8_whirl : Cond.instanceMethod yX8_whirl ∈ TW := tw_6 (i := 79) rfl rfl
theorem se_X8_whirl : Cond.selects RX8 yX8_whirl yX8_whirl ∈ TW := tw_6 (i := 80) rfl rfl
theorem co_yX8_whirl : Cond.code yX8_whirl cX8_whirl 8 (some .int) ∈ TW := tw_6 (i := 81) rfl rfl
theorem ck_RX8_345 : Cond.constantLong RX8 345 (-1000) ∈ TW := tw_6 (i := 82) rfl rfl
theorem ck_RX8_347 : Cond.constantLong RX8 347 (1000000) ∈ TW := tw_6 (i := 83) rfl rfl
theorem ml_RL_131 : Cond.methodLink RL 131 yX7_sheet ∈ TW := tw_4 (i := 98) rfl rfl
theorem im_yX7_sheet : Cond.instanceMethod yX7_sheet ∈ TW := tw_4 (i := 99) rfl rfl
theorem se_X7_sheet : Cond.selects RX7 yX7_sheet yX7_sheet ∈ TW := tw_4 (i := 100) rfl rfl
theorem co_yX7_sheet : Cond.code yX7_sheet cX7_sheet 4 (some .int) ∈ TW := tw_4 (i := 101) rfl rfl
theorem ml_RX7_294 : Cond.methodLink RX7 294 yX6_begin ∈ TW := tw_4 (i := 102) rfl rfl
theorem im_yX6_begin : Cond.instanceMethod yX6_begin ∈ TW := tw_4 (i := 103) rfl rfl
theorem se_X6_begin : Cond.selects RX6 yX6_begin yX6_begin ∈ TW := tw_4 (i := 104) rfl rfl
theorem co_yX6_begin : Cond.code yX6_begin cX6_begin 4 none ∈ TW := tw_4 (i := 105) rfl rfl
theorem ml_RL_134 : Cond.methodLink RL 134 yX8_sheet ∈ TW := tw_6 (i := 84) rfl rfl
theorem im_yX8_sheet : Cond.instanceMethod yX8_sheet ∈ TW := tw_6 (i := 85) rfl rfl
theorem se_X8_sheet : Cond.selects RX8 yX8_sheet yX8_sheet ∈ TW := tw_6 (i := 86) rfl rfl
theorem co_yX8_sheet : Cond.code yX8_sheet cX8_sheet 5 (some .int) ∈ TW := tw_6 (i := 87) rfl rfl
theorem ml_RL_135 : Cond.methodLink RL 135 yX7_drop ∈ TW := tw_4 (i := 106) rfl rfl
theorem im_yX7_drop : Cond.instanceMethod yX7_drop ∈ TW := tw_4 (i := 107) rfl rfl
theorem se_X7_drop : Cond.selects RX7 yX7_drop yX7_drop ∈ TW := tw_4 (i := 108) rfl rfl
theorem co_yX7_drop : Cond.code yX7_drop cX7_drop 3 (some .int) ∈ TW := tw_4 (i := 109) rfl rfl
theorem fl_RX7_297 : Cond.fieldLink RX7 297 "ShaftLine$Sheet" "held" "Z" ∈ TW := tw_2 (i := 22) rfl rfl
theorem fl_RX7_300 : Cond.fieldLink RX7 300 "ShaftLine$Sheet" "count" "I" ∈ TW := tw_2 (i := 26) rfl rfl
theorem ml_RL_138 : Cond.methodLink RL 138 yX8_drop ∈ TW := tw_6 (i := 88) rfl rfl
theorem im_yX8_drop : Cond.instanceMethod yX8_drop ∈ TW := tw_6 (i := 89) rfl rfl
theorem se_X8_drop : Cond.selects RX8 yX8_drop yX8_drop ∈ TW := tw_6 (i := 90) rfl rfl
theorem co_yX8_drop : Cond.code yX8_drop cX8_drop 2 (some .int) ∈ TW := tw_6 (i := 91) rfl rfl
theorem ml_RL_139 : Cond.methodLink RL 139 yX7_item ∈ TW := tw_4 (i := 110) rfl rfl
theorem im_yX7_item : Cond.instanceMethod yX7_item ∈ TW := tw_4 (i := 111) rfl rfl
theorem se_X7_item : Cond.selects RX7 yX7_item yX7_item ∈ TW := tw_4 (i := 112) rfl rfl
theorem co_yX7_item : Cond.code yX7_item cX7_item 6 (some .int) ∈ TW := tw_4 (i := 113) rfl rfl
theorem ml_RX7_301 : Cond.methodLink RX7 301 yX6_put ∈ TW := tw_4 (i := 114) rfl rfl
theorem im_yX6_put : Cond.instanceMethod yX6_put ∈ TW := tw_4 (i := 115) rfl rfl
theorem se_X6_put : Cond.selects RX6 yX6_put yX6_put ∈ TW := tw_4 (i := 116) rfl rfl
theorem co_yX6_put : Cond.code yX6_put cX6_put 3 none ∈ TW := tw_4 (i := 117) rfl rfl
theorem ml_RL_143 : Cond.methodLink RL 143 yX8_item ∈ TW := tw_6 (i := 92) rfl rfl
theorem im_yX8_item : Cond.instanceMethod yX8_item ∈ TW := tw_6 (i := 93) rfl rfl
theorem se_X8_item : Cond.selects RX8 yX8_item yX8_item ∈ TW := tw_6 (i := 94) rfl rfl
theorem co_yX8_item : Cond.code yX8_item cX8_item 6 (some .int) ∈ TW := tw_6 (i := 95) rfl rfl
theorem ml_RL_144 : Cond.methodLink RL 144 yX7_copy ∈ TW := tw_4 (i := 118) rfl rfl
theorem im_yX7_copy : Cond.instanceMethod yX7_copy ∈ TW := tw_4 (i := 119) rfl rfl
theorem se_X7_copy : Cond.selects RX7 yX7_copy yX7_copy ∈ TW := tw_4 (i := 120) rfl rfl
theorem co_yX7_copy : Cond.code yX7_copy cX7_copy 8 (some .int) ∈ TW := tw_4 (i := 121) rfl rfl
theorem fl_RX7_302 : Cond.fieldLink RX7 302 "ShaftLine$Sheet" "lane" "I" ∈ TW := tw_2 (i := 24) rfl rfl
theorem ml_RX7_308 : Cond.methodLink RX7 308 arraycopyName ∈ TW := tw_4 (i := 123) rfl rfl
theorem na_arraycopyName : Cond.native arraycopyName ∈ TW := tw_4 (i := 125) rfl rfl
theorem st_arraycopyName : Cond.static arraycopyName ∈ TW := tw_4 (i := 124) rfl rfl
theorem ini__java_lang_System_ : Cond.initialized "java/lang/System" ∈ TW := tw_1 (i := 12) rfl rfl
theorem ml_RX7_305 : Cond.methodLink RX7 305 yX6_has ∈ TW := tw_4 (i := 122) rfl rfl
theorem ml_RL_147 : Cond.methodLink RL 147 yX8_copy ∈ TW := tw_6 (i := 96) rfl rfl
theorem im_yX8_copy : Cond.instanceMethod yX8_copy ∈ TW := tw_6 (i := 97) rfl rfl
theorem se_X8_copy : Cond.selects RX8 yX8_copy yX8_copy ∈ TW := tw_6 (i := 98) rfl rfl
theorem co_yX8_copy : Cond.code yX8_copy cX8_copy 7 (some .int) ∈ TW := tw_6 (i := 99) rfl rfl
