/-! TEXTS: a reader, common to class and model -/
/-- a number's digits, as they are -/
def numW (f : Nat → Int32) (T : Nat) : Nat → Nat → Nat → Nat × Nat
  | 0, a, v => (a, v)
  | n + 1, a, v => if a < T ∧ isW (f a) 48 57 = true then numW f T n (a + 1) (10 * v + (f a).toInt.toNat - 48) else (a, v)
def numZ (f : Nat → Int32) (T a : Nat) : Nat × Nat := numW f T (T - a) a 0
theorem numW_le {f : Nat → Int32} {T : Nat} : ∀ n a v, a ≤ T → a ≤ (numW f T n a v).1 ∧ (numW f T n a v).1 ≤ T
  | 0, a, v, h => ⟨Nat.le_refl _, h⟩
  | n + 1, a, v, h => by
    simp only [numW]
    split
    · rename_i c
      have := numW_le (f := f) (T := T) n (a + 1) (10 * v + (f a).toInt.toNat - 48) (by omega)
      omega
    · exact ⟨Nat.le_refl _, h⟩
theorem numZ_le {f : Nat → Int32} {T a : Nat} (h : a ≤ T) : a ≤ (numZ f T a).1 ∧ (numZ f T a).1 ≤ T := numW_le _ a 0 h
theorem dig_in {c : Int32} (h : isW c 48 57 = true) : 48 ≤ c.toInt ∧ c.toInt ≤ 57 := k_isW h rfl rfl
/-- the class's number: no more than 1000 -/
theorem numR_W {f : Nat → Int32} {T : Nat} : ∀ n a (v : Int32) (V : Nat), v.toInt = ((min V 1000 : Nat) : Int) → (numR f T n a v).1 = (numW f T n a V).1 ∧ (numR f T n a v).2.toInt = ((min (numW f T n a V).2 1000 : Nat) : Int)
  | 0, a, v, V, h => ⟨rfl, h⟩
  | n + 1, a, v, V, h => by
    simp only [numR, numW]
    by_cases c : a < T ∧ isW (f a) 48 57 = true
    · rw [if_pos c, if_pos c]
      refine numR_W n (a + 1) _ _ ?_
      have hd := dig_in c.2
      have e : (10 * v + f a - 48).toInt = 10 * v.toInt + (f a).toInt - 48 := by
        have hv : 0 ≤ v.toInt ∧ v.toInt ≤ 1000 := by omega
        have e1 : (10 * v).toInt = 10 * v.toInt := by
          rw [Int32.toInt_mul]
          have z : (10 : Int32).toInt = 10 := rfl
          rw [z, Int.bmod_eq_of_le] <;> omega
        have e2 : (10 * v + f a).toInt = 10 * v.toInt + (f a).toInt := by
          rw [Int32.toInt_add, e1, Int.bmod_eq_of_le] <;> omega
        have z : (48 : Int32).toInt = 48 := rfl
        rw [Int32.toInt_sub, e2, z, Int.bmod_eq_of_le] <;> omega
      unfold numV
      have z1000 : (1000 : Int32).toInt = 1000 := rfl
      by_cases g : 10 * v + f a - 48 < 1000
      · rw [if_pos g, e]
        rw [Int32.lt_iff_toInt_lt, e, z1000] at g
        omega
      · rw [if_neg g, z1000]
        rw [Int32.lt_iff_toInt_lt, e, z1000] at g
        omega
    · rw [if_neg c, if_neg c]
      exact ⟨rfl, h⟩
theorem numB_Z {f : Nat → Int32} {T a : Nat} : (numB f T a 0).1 = (numZ f T a).1 ∧ (numB f T a 0).2.toInt = ((min (numZ f T a).2 1000 : Nat) : Int) := numR_W _ a 0 0 rfl
/-- bearings sorted by places, one more -/
abbrev SL3 : Type := Nat × (Nat → Nat) × (Nat → Int)
def insT (S : SL3) (x : Nat × Int) : SL3 := (S.1 + 1, insG S.2.1 (cntN S.2.1 x.1 S.1) x.1, insG S.2.2 (cntN S.2.1 x.1 S.1) x.2)
def foldI (bs : List (Nat × Int)) : SL3 := bs.foldl insT (0, fun _ => 0, fun _ => 0)
theorem foldI_s (bs : List (Nat × Int)) (x : Nat × Int) : foldI (bs ++ [x]) = insT (foldI bs) x := by
  unfold foldI
  rw [List.foldl_append]
  rfl
/-- a draft: bearings in the order of reading, weights, STIFFNESS (0: not told) -/
abbrev DR : Type := List (Nat × Int) × (Nat → Int) × Int
def hasP (bs : List (Nat × Int)) (p : Nat) : Bool := bs.any (fun x => x.1 == p)
def okI (S : SL3) : Prop := S.1 ≤ 6 ∧ incN S.2.1 S.1 ∧ ∀ k, k < S.1 → -50 ≤ S.2.2 k ∧ S.2.2 k ≤ 50
theorem okI_ins {S : SL3} {p : Nat} {v : Int} (h : okI S) (h6 : S.1 < 6) (hp : p < 13) (hno : ∀ k, k < S.1 → S.2.1 k ≠ p) (hv : -50 ≤ v ∧ v ≤ 50) : okI (insT S (p, v)) := by
  obtain ⟨n, q, o⟩ := S
  have hm : cntN q p n ≤ n := cntN_le n
  have hc : ∀ j, j < n → (q j < p ↔ j < cntN q p n) := fun j hj => cntN_inc (p := p) h.2.1 n (Nat.le_refl _) j hj
  simp only at h6 hno
  refine ⟨by show n + 1 ≤ 6; omega, ⟨fun k hk => ?_, fun k hk => ?_⟩, fun k hk => ?_⟩
  · show insG q (cntN q p n) p k < 13
    have hk : k < n + 1 := hk
    rcases Nat.lt_trichotomy k (cntN q p n) with c | c | c
    · rw [insG_lt c]
      exact h.2.1.1 k (by show k < n; omega)
    · rw [c, insG_m]
      exact hp
    · rw [insG_gt c]
      exact h.2.1.1 (k - 1) (by show k - 1 < n; omega)
  · show insG q (cntN q p n) p k < insG q (cntN q p n) p (k + 1)
    have hk : k + 1 < n + 1 := hk
    rcases Nat.lt_trichotomy (k + 1) (cntN q p n) with c | c | c
    · rw [insG_lt c, insG_lt (by omega)]
      exact h.2.1.2 k (by show k + 1 < n; omega)
    · rw [c, insG_m, insG_lt (by omega)]
      exact (hc k (by omega)).mpr (by omega)
    · rw [insG_gt c, show k + 1 - 1 = k from rfl]
      by_cases e : k = cntN q p n
      · rw [e, insG_m]
        have h1 := hc (cntN q p n) (by omega)
        have h2 := hno (cntN q p n) (by omega)
        have : ¬ q (cntN q p n) < p := fun d => by have := h1.mp d; omega
        omega
      · rw [insG_gt (by omega)]
        have := h.2.1.2 (k - 1) (by show k - 1 + 1 < n; omega)
        rw [show k - 1 + 1 = k by omega] at this
        exact this
  · show -50 ≤ insG o (cntN q p n) v k ∧ insG o (cntN q p n) v k ≤ 50
    have hk : k < n + 1 := hk
    rcases Nat.lt_trichotomy k (cntN q p n) with c | c | c
    · rw [insG_lt c]
      exact h.2.2 k (by show k < n; omega)
    · rw [c, insG_m]
      exact hv
    · rw [insG_gt c]
      exact h.2.2 (k - 1) (by show k - 1 < n; omega)
theorem ins_mem {S : SL3} {p x : Nat} {v : Int} : (∃ k, k < (insT S (p, v)).1 ∧ (insT S (p, v)).2.1 k = x) ↔ (x = p ∨ ∃ k, k < S.1 ∧ S.2.1 k = x) := by
  obtain ⟨n, q, o⟩ := S
  have hm : cntN q p n ≤ n := cntN_le n
  show (∃ k, k < n + 1 ∧ insG q (cntN q p n) p k = x) ↔ (x = p ∨ ∃ k, k < n ∧ q k = x)
  constructor
  · intro ⟨k, hk, e⟩
    rcases Nat.lt_trichotomy k (cntN q p n) with c | c | c
    · rw [insG_lt c] at e
      exact Or.inr ⟨k, by omega, e⟩
    · rw [c, insG_m] at e
      exact Or.inl e.symm
    · rw [insG_gt c] at e
      exact Or.inr ⟨k - 1, by omega, e⟩
  · rintro (e | ⟨k, hk, e⟩)
    · exact ⟨cntN q p n, by omega, by rw [insG_m, e]⟩
    · by_cases c : k < cntN q p n
      · exact ⟨k, by omega, by rw [insG_lt c]; exact e⟩
      · exact ⟨k + 1, by omega, by rw [insG_gt (by omega), show k + 1 - 1 = k from rfl]; exact e⟩
/-- a draft that may be -/
def okD (D : DR) : Prop := okI (foldI D.1) ∧ (foldI D.1).1 = D.1.length ∧ (∀ x, hasP D.1 x = true ↔ ∃ k, k < (foldI D.1).1 ∧ (foldI D.1).2.1 k = x) ∧ (∀ p, p < 13 → 0 ≤ D.2.1 p ∧ D.2.1 p ≤ 50) ∧ 0 ≤ D.2.2 ∧ D.2.2 ≤ 20
theorem hasP_s {bs : List (Nat × Int)} {p x : Nat} {v : Int} : hasP (bs ++ [(p, v)]) x = true ↔ x = p ∨ hasP bs x = true := by
  unfold hasP
  rw [List.any_append, Bool.or_eq_true]
  simp only [List.any_cons, List.any_nil, Bool.or_false, beq_iff_eq]
  constructor
  · rintro (h | h)
    · exact Or.inr h
    · exact Or.inl h.symm
  · rintro (h | h)
    · exact Or.inr h.symm
    · exact Or.inl h
theorem okD_b {D : DR} {p : Nat} {v : Int} (h : okD D) (h6 : D.1.length < 6) (hp : p < 13) (hno : hasP D.1 p = false) (hv : -50 ≤ v ∧ v ≤ 50) : okD (D.1 ++ [(p, v)], D.2) := by
  obtain ⟨h1, h2, h3, h4⟩ := h
  have hn : ∀ k, k < (foldI D.1).1 → (foldI D.1).2.1 k ≠ p := fun k hk e => by
    have := (h3 p).mpr ⟨k, hk, e⟩
    rw [this] at hno
    cases hno
  refine ⟨?_, ?_, fun x => ?_, h4⟩
  · show okI (foldI (D.1 ++ [(p, v)]))
    rw [foldI_s]
    exact okI_ins h1 (by omega) hp hn hv
  · show (foldI (D.1 ++ [(p, v)])).1 = (D.1 ++ [(p, v)]).length
    rw [foldI_s, List.length_append]
    show (foldI D.1).1 + 1 = _
    rw [h2]
    rfl
  · show hasP (D.1 ++ [(p, v)]) x = true ↔ ∃ k, k < (foldI (D.1 ++ [(p, v)])).1 ∧ (foldI (D.1 ++ [(p, v)])).2.1 k = x
    rw [foldI_s, ins_mem, hasP_s, h3 x]
def isDg (f : Nat → Int32) (a T : Nat) : Bool := isW (nxt f a T) 48 57
/-- a clause: the place of a FAULT, or where it ends and the draft -/
def pB2 (f : Nat → Int32) (T a p : Nat) (D : DR) : Nat × Option DR :=
  if nxt f (skB f a T) T = 61 then
    (if nxt f (skB f (skB f a T + 1) T) T = 45 then
      (if isDg f (skB f (skB f (skB f a T + 1) T + 1) T) T = true then (if (numZ f T (skB f (skB f (skB f a T + 1) T + 1) T)).2 ≤ 50 then ((numZ f T (skB f (skB f (skB f a T + 1) T + 1) T)).1, some (D.1 ++ [(p, -((numZ f T (skB f (skB f (skB f a T + 1) T + 1) T)).2 : Int))], D.2)) else (skB f (skB f (skB f a T + 1) T + 1) T, none)) else (skB f (skB f (skB f a T + 1) T + 1) T, none))
    else
      (if isDg f (skB f (skB f a T + 1) T) T = true then (if (numZ f T (skB f (skB f a T + 1) T)).2 ≤ 50 then ((numZ f T (skB f (skB f a T + 1) T)).1, some (D.1 ++ [(p, ((numZ f T (skB f (skB f a T + 1) T)).2 : Int))], D.2)) else (skB f (skB f a T + 1) T, none)) else (skB f (skB f a T + 1) T, none)))
  else (skB f a T, some (D.1 ++ [(p, 0)], D.2))
def pB (f : Nat → Int32) (T a : Nat) (D : DR) : Nat × Option DR :=
  if isDg f (skB f a T) T = true then
    (if (numZ f T (skB f a T)).2 ≤ 12 ∧ hasP D.1 (numZ f T (skB f a T)).2 = false then pB2 f T (numZ f T (skB f a T)).1 (numZ f T (skB f a T)).2 D else (skB f a T, none))
  else (skB f a T, none)
def updZ (w : Nat → Int) (p : Nat) (v : Int) : Nat → Int := fun k => if k = p then v else w k
def pW2 (f : Nat → Int32) (T a p : Nat) (D : DR) : Nat × Option DR :=
  if nxt f (skB f a T) T = 61 then
    (if isDg f (skB f (skB f a T + 1) T) T = true then (if 1 ≤ (numZ f T (skB f (skB f a T + 1) T)).2 ∧ (numZ f T (skB f (skB f a T + 1) T)).2 ≤ 50 then ((numZ f T (skB f (skB f a T + 1) T)).1, some (D.1, updZ D.2.1 p ((numZ f T (skB f (skB f a T + 1) T)).2 : Int), D.2.2)) else (skB f (skB f a T + 1) T, none)) else (skB f (skB f a T + 1) T, none))
  else (skB f a T, none)
def pW (f : Nat → Int32) (T a : Nat) (D : DR) : Nat × Option DR :=
  if isDg f (skB f a T) T = true then
    (if (numZ f T (skB f a T)).2 ≤ 12 ∧ ¬ 0 < D.2.1 (numZ f T (skB f a T)).2 then pW2 f T (numZ f T (skB f a T)).1 (numZ f T (skB f a T)).2 D else (skB f a T, none))
  else (skB f a T, none)
def pF (f : Nat → Int32) (T a : Nat) (D : DR) : Nat × Option DR :=
  if isDg f (skB f a T) T = true then
    (if 1 ≤ (numZ f T (skB f a T)).2 ∧ (numZ f T (skB f a T)).2 ≤ 20 then ((numZ f T (skB f a T)).1, some (D.1, D.2.1, ((numZ f T (skB f a T)).2 : Int))) else (skB f a T, none))
  else (skB f a T, none)
def pCl (f : Nat → Int32) (T a : Nat) (D : DR) : Nat × Option DR :=
  if nxt f (skB f a T) T = 98 then (if D.1.length < 6 then pB f T (skB f a T + 1) D else (skB f a T, none))
  else if nxt f (skB f a T) T = 119 then pW f T (skB f a T + 1) D
  else if nxt f (skB f a T) T = 102 then pF f T (skB f a T + 1) D
  else (skB f a T, none)
/-- a text: n + 1 clauses may come -/
def pTx (f : Nat → Int32) (T : Nat) : Nat → Nat → DR → Nat × Option DR
  | n, a, D => match pCl f T a D with
    | (e, none) => (e, none)
    | (e, some D') => if T ≤ skB f e T then (e, some D') else if nxt f (skB f e T) T = 59 then (match n with
      | 0 => (skB f e T, none)
      | m + 1 => pTx f T m (skB f e T + 1) D') else (skB f e T, none)
def dr0 : DR := ([], fun _ => 0, 0)
theorem okD_0 : okD dr0 := ⟨⟨by decide, ⟨fun k hk => absurd hk (Nat.not_lt_zero _), fun k hk => absurd hk (Nat.not_lt_zero _)⟩, fun k hk => absurd hk (Nat.not_lt_zero _)⟩, rfl, fun x => ⟨fun h => (by cases h), fun ⟨k, hk, _⟩ => absurd hk (Nat.not_lt_zero _)⟩, fun p _ => ⟨Int.le_refl 0, by show (0 : Int) ≤ 50; decide⟩, Int.le_refl 0, by decide⟩
