/-! further rows of the pure layer: names for what is on top, fewer locals, Math's own, a callee that changes nothing -/
section PXE
variable {X : PX} {own : String} {cc : ByteArray} {d kc ks pc q : Nat} {lv lv' : List (Nat × Value)} {st st' : List Value} {sh : Sh} {I : IM} {L : LM} {R : RM} {k n : Nat}
theorem pw_nmI {x : Int32} (kk : ∀ y : Int32, y = x → PW X pc lv (.int y :: st) sh I L R k n) : PW X pc lv (.int x :: st) sh I L R k n := kk x rfl
theorem pw_nmL {x : Int64} (kk : ∀ y : Int64, y = x → PW X pc lv (.long y :: st) sh I L R k n) : PW X pc lv (.long x :: st) sh I L R k n := kk x rfl
theorem pw_eqI {x y : Int32} (e : x = y) (kk : PW X pc lv (.int y :: st) sh I L R k n) : PW X pc lv (.int x :: st) sh I L R k n := by rw [e]; exact kk
theorem pw_eqL {x y : Int64} (e : x = y) (kk : PW X pc lv (.long y :: st) sh I L R k n) : PW X pc lv (.long x :: st) sh I L R k n := by rw [e]; exact kk
theorem pw_mem {I' : IM} {L' : LM} {R' : RM} (e1 : I = I') (e2 : L = L') (e3 : R = R') (kk : PW X pc lv st sh I' L' R' k n) : PW X pc lv st sh I L R k n := by subst e1; subst e2; subst e3; exact kk
theorem PW.perm (is : List Nat) (hl : lv_pick lv is = lv') (kk : PW X pc lv' st sh I L R k n) : PW X pc lv st sh I L R k n :=
  fun ad H locs ls hp => kk ad H locs ls (hp.nl (lv_sub hp.2.2.2.2 is (by
    rw [← hl]
    unfold lv_pick px_l
    rw [List.map_filterMap]
    congr 1
    funext j
    rw [List.getElem?_map])))
/-- an answer, nothing changed -/
def pRet (v : Option Value) (sh : Sh) (I : IM) (L : LM) (R : RM) : PPost := fun r sh' I' L' R' => r = v ∧ sh' = sh ∧ I' = I ∧ L' = L ∧ R' = R
theorem PKk.ret {v : Option Value} (kk : PW X q lv (v.toList ++ st) sh I L R k n) : PKk X q lv st sh k n (pRet v sh I L R) := by
  intro r sh' I' L' R' h
  obtain ⟨rfl, rfl, rfl, rfl, rfl⟩ := h
  exact ⟨rfl, kk⟩
theorem PKk.to {Post Post' : PPost} (h : ∀ r sh' I' L' R', Post r sh' I' L' R' → Post' r sh' I' L' R') (kk : PKk X q lv st sh k n Post') : PKk X q lv st sh k n Post := fun r sh' I' L' R' hp => kk r sh' I' L' R' (h r sh' I' L' R' hp)
theorem pw_mmax {ix : Nat} {x y : Int32} (h : PXok X own cc d kc ks) (dc : Dc cc pc (.invokestatic ix) 3 q) (hl : Cond.methodLink own ix Lib.Math.max.name ∈ TW) (hd : 1 ≤ d) (hcat : (st.map fun v => v.category).sum ≤ 8) (hk : k ≤ kc) (hn : n ≤ ks) (kk : PW X q lv (.int (if x < y then y else x) :: st) sh I L R k n) : PW X pc lv (.int y :: .int x :: st) sh I L R k n :=
  PW.step (fun ad H locs ls hp w => va_mmax h.1 h.2.1 hp.2.2.2.2.1.symm h.2.2.2.1 (h.2.2.1 _ hl) (h.2.2.1 _ st_Lib_Math_max_name) (h.2.2.1 _ ini__java_lang_Math_) (h.2.2.1 _ co_Lib_Math_max_name) (Nat.le_trans hd h.2.2.2.2.2.1) (by rw [px_catsum]; have := h.2.2.2.2.2.2.1; omega) (Nat.le_trans hk h.2.2.2.2.2.2.2.1) (Nat.le_trans hn h.2.2.2.2.2.2.2.2) dc.1 (by rw [dc.2]; exact w)) kk
theorem pw_mmin {ix : Nat} {x y : Int32} (h : PXok X own cc d kc ks) (dc : Dc cc pc (.invokestatic ix) 3 q) (hl : Cond.methodLink own ix Lib.Math.min.name ∈ TW) (hd : 1 ≤ d) (hcat : (st.map fun v => v.category).sum ≤ 8) (hk : k ≤ kc) (hn : n ≤ ks) (kk : PW X q lv (.int (if y < x then y else x) :: st) sh I L R k n) : PW X pc lv (.int y :: .int x :: st) sh I L R k n :=
  PW.step (fun ad H locs ls hp w => va_mmin h.1 h.2.1 hp.2.2.2.2.1.symm h.2.2.2.1 (h.2.2.1 _ hl) (h.2.2.1 _ st_Lib_Math_min_name) (h.2.2.1 _ ini__java_lang_Math_) (h.2.2.1 _ co_Lib_Math_min_name) (Nat.le_trans hd h.2.2.2.2.2.1) (by rw [px_catsum]; have := h.2.2.2.2.2.2.1; omega) (Nat.le_trans hk h.2.2.2.2.2.2.2.1) (Nat.le_trans hn h.2.2.2.2.2.2.2.2) dc.1 (by rw [dc.2]; exact w)) kk
theorem pw_mabs {ix : Nat} {x : Int32} (h : PXok X own cc d kc ks) (dc : Dc cc pc (.invokestatic ix) 3 q) (hl : Cond.methodLink own ix Lib.Math.abs.name ∈ TW) (hd : 1 ≤ d) (hcat : (st.map fun v => v.category).sum ≤ 8) (hk : k ≤ kc) (hn : n ≤ ks) (kk : PW X q lv (.int (if 0 ≤ x then x else 0 - x) :: st) sh I L R k n) : PW X pc lv (.int x :: st) sh I L R k n :=
  PW.step (fun ad H locs ls hp w => va_mabs h.1 h.2.1 hp.2.2.2.2.1.symm h.2.2.2.1 (h.2.2.1 _ hl) (h.2.2.1 _ st_Lib_Math_abs_name) (h.2.2.1 _ ini__java_lang_Math_) (h.2.2.1 _ co_Lib_Math_abs_name) (Nat.le_trans hd h.2.2.2.2.2.1) (by rw [px_catsum]; have := h.2.2.2.2.2.2.1; omega) (Nat.le_trans hk h.2.2.2.2.2.2.2.1) (Nat.le_trans hn h.2.2.2.2.2.2.2.2) dc.1 (by rw [dc.2]; exact w)) kk
theorem pw_mabsl {ix : Nat} {x : Int64} (h : PXok X own cc d kc ks) (dc : Dc cc pc (.invokestatic ix) 3 q) (hl : Cond.methodLink own ix Lib.MathLoose.abs_long.x ∈ TW) (hd : 1 ≤ d) (hcat : (st.map fun v => v.category).sum ≤ 8) (hk : k ≤ kc) (hn : n ≤ ks) (kk : PW X q lv (.long (if 0 < x then x else -x) :: st) sh I L R k n) : PW X pc lv (.long x :: st) sh I L R k n :=
  PW.step (fun ad H locs ls hp w => va_mabs_long h.1 h.2.1 hp.2.2.2.2.1.symm h.2.2.2.1 (h.2.2.1 _ hl) (h.2.2.1 _ st_Lib_MathLoose_abs_long_x) (h.2.2.1 _ ini__java_lang_Math_) (h.2.2.1 _ co_Lib_MathLoose_abs_long_x) (Nat.le_trans hd h.2.2.2.2.2.1) (by rw [px_catsum]; have := h.2.2.2.2.2.2.1; omega) (Nat.le_trans hk h.2.2.2.2.2.2.2.1) (Nat.le_trans hn h.2.2.2.2.2.2.2.2) dc.1 (by rw [dc.2]; exact w)) kk
end PXE
/-! numbers within bounds -/
def bI (b : Bool) : Int32 := if b then 1 else 0
theorem bI_t {b : Bool} (h : b = true) : (1 : Int32) = bI b := by subst h; rfl
theorem bI_f {b : Bool} (h : b = false) : (0 : Int32) = bI b := by subst h; rfl
theorem bI_1 {b : Bool} : bI b = 0 ↔ b = false := by cases b <;> simp [bI]
theorem bI_n {b : Bool} (ty : FieldType) (h : ty = .boolean) : narrow ty (.int (bI b)) = .int (bI b) := by subst h; cases b <;> rfl
def isW (v a b : Int32) : Bool := decide (a.toInt ≤ v.toInt ∧ v.toInt ≤ b.toInt)
theorem isW_t {v a b : Int32} (h : a.toInt ≤ v.toInt) (h2 : v.toInt ≤ b.toInt) : isW v a b = true := decide_eq_true ⟨h, h2⟩
theorem isW_f {v a b : Int32} (h : v.toInt < a.toInt ∨ b.toInt < v.toInt) : isW v a b = false := decide_eq_false (by omega)
def isWL (v a b : Int64) : Bool := decide (a.toInt ≤ v.toInt ∧ v.toInt ≤ b.toInt)
theorem isWL_t {v a b : Int64} (h : a.toInt ≤ v.toInt) (h2 : v.toInt ≤ b.toInt) : isWL v a b = true := decide_eq_true ⟨h, h2⟩
theorem isWL_f {v a b : Int64} (h : v.toInt < a.toInt ∨ b.toInt < v.toInt) : isWL v a b = false := decide_eq_false (by omega)
theorem i_lt {a b : Int32} (h : a < b) : a.toInt < b.toInt := Int32.lt_iff_toInt_lt.mp h
theorem i_le {a b : Int32} (h : a ≤ b) : a.toInt ≤ b.toInt := Int32.le_iff_toInt_le.mp h
theorem i_nlt {a b : Int32} (h : ¬ a < b) : b.toInt ≤ a.toInt := by rw [Int32.lt_iff_toInt_lt] at h; omega
theorem i_nle {a b : Int32} (h : ¬ a ≤ b) : b.toInt < a.toInt := by rw [Int32.le_iff_toInt_le] at h; omega
theorem lc_3 (x y : Int64) : (lg_cmp x y = 1 ∧ y.toInt < x.toInt) ∨ (lg_cmp x y = 0 ∧ x = y) ∨ (lg_cmp x y = -1 ∧ x.toInt < y.toInt) := by
  unfold lg_cmp
  split
  · rename_i h1
    exact Or.inl ⟨rfl, Int64.lt_iff_toInt_lt.mp h1⟩
  · rename_i h1
    split
    · rename_i h2
      exact Or.inr (Or.inl ⟨rfl, h2⟩)
    · rename_i h2
      refine Or.inr (Or.inr ⟨rfl, ?_⟩)
      have h1 : ¬ y < x := h1
      rw [Int64.lt_iff_toInt_lt] at h1
      have : x.toInt ≠ y.toInt := fun e => h2 (Int64.toInt_inj.mp e)
      omega
theorem lc_lt {x y : Int64} : lg_cmp x y < 0 ↔ x.toInt < y.toInt := by
  rcases lc_3 x y with ⟨e, h⟩ | ⟨e, h⟩ | ⟨e, h⟩ <;> rw [e]
  · exact ⟨fun c => absurd c (by decide), fun c => by omega⟩
  · subst h; exact ⟨fun c => absurd c (by decide), fun c => by omega⟩
  · exact ⟨fun _ => h, fun _ => by decide⟩
theorem lc_gt {x y : Int64} : 0 < lg_cmp x y ↔ y.toInt < x.toInt := by
  rcases lc_3 x y with ⟨e, h⟩ | ⟨e, h⟩ | ⟨e, h⟩ <;> rw [e]
  · exact ⟨fun _ => h, fun _ => by decide⟩
  · subst h; exact ⟨fun c => absurd c (by decide), fun c => by omega⟩
  · exact ⟨fun c => absurd c (by decide), fun c => by omega⟩
theorem lc_ge {x y : Int64} : 0 ≤ lg_cmp x y ↔ y.toInt ≤ x.toInt := by
  rcases lc_3 x y with ⟨e, h⟩ | ⟨e, h⟩ | ⟨e, h⟩ <;> rw [e]
  · exact ⟨fun _ => by omega, fun _ => by decide⟩
  · subst h; exact ⟨fun _ => Int.le_refl _, fun _ => by decide⟩
  · exact ⟨fun c => absurd c (by decide), fun c => by omega⟩
theorem lc_le {x y : Int64} : lg_cmp x y ≤ 0 ↔ x.toInt ≤ y.toInt := by
  rcases lc_3 x y with ⟨e, h⟩ | ⟨e, h⟩ | ⟨e, h⟩ <;> rw [e]
  · exact ⟨fun c => absurd c (by decide), fun c => by omega⟩
  · subst h; exact ⟨fun _ => Int.le_refl _, fun _ => by decide⟩
  · exact ⟨fun _ => by omega, fun _ => by decide⟩
theorem lc_eq {x y : Int64} : lg_cmp x y = 0 ↔ x.toInt = y.toInt := by
  rcases lc_3 x y with ⟨e, h⟩ | ⟨e, h⟩ | ⟨e, h⟩ <;> rw [e]
  · exact ⟨fun c => absurd c (by decide), fun c => by omega⟩
  · subst h; exact ⟨fun _ => rfl, fun _ => rfl⟩
  · exact ⟨fun c => absurd c (by decide), fun c => by omega⟩
