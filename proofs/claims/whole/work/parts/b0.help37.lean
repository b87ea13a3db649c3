/-! the model's reader -/
def nx0 (f : Nat → Int32) (a T : Nat) : Int32 := if a < T then f a else 0
theorem nx0_dg {f : Nat → Int32} {a T : Nat} : isW (nx0 f a T) 48 57 = isW (nxt f a T) 48 57 := by
  unfold nx0 nxt
  split
  · rfl
  · decide
theorem nx0_c {f : Nat → Int32} {a T : Nat} {c : Int32} (h0 : ¬ c = 0) (h1 : ¬ c = -1) : nx0 f a T = c ↔ nxt f a T = c := by
  unfold nx0 nxt
  split
  · exact Iff.rfl
  · exact ⟨fun h => absurd h.symm h0, fun h => absurd h.symm h1⟩
theorem skp_stop {f : Nat → Int32} {T : Nat} : ∀ n a, T ≤ a + n → ¬ (skp f T n a < T ∧ f (skp f T n a) = 32)
  | 0, a, h => fun q => by have := q.1; simp only [skp] at this; omega
  | n + 1, a, h => by
    simp only [skp]
    split
    · exact skp_stop n (a + 1) (by omega)
    · assumption
/-- the model's number stands for the digits' number -/
def capR (v : Int32) (V : Nat) : Prop := (v.toInt = (V : Int) ∧ V ≤ 99999) ∨ (9999 < v.toInt ∧ v.toInt ≤ 99999 ∧ 9999 < V)
theorem capR_0 : capR 0 0 := Or.inl ⟨rfl, by decide⟩
theorem capR_big {v c : Int32} {V : Nat} (h : capR v V) (hv : ¬ v ≤ 9999) (hc : isW c 48 57 = true) : capR v (10 * V + c.toInt.toNat - 48) := by
  have hd := dig_in hc
  rw [Int32.le_iff_toInt_le, show (9999 : Int32).toInt = 9999 from rfl] at hv
  unfold capR at *
  omega
theorem capR_s {v c : Int32} {V : Nat} (h : capR v V) (hv : v ≤ 9999) (hc : isW c 48 57 = true) : capR (10 * v + c - 48) (10 * V + c.toInt.toNat - 48) := by
  have hd := dig_in hc
  rw [Int32.le_iff_toInt_le, show (9999 : Int32).toInt = 9999 from rfl] at hv
  have h2 : v.toInt = (V : Int) ∧ V ≤ 9999 := by unfold capR at h; omega
  have e1 : (10 * v).toInt = 10 * v.toInt := by
    rw [Int32.toInt_mul]
    have z : (10 : Int32).toInt = 10 := rfl
    rw [z, Int.bmod_eq_of_le] <;> omega
  have e2 : (10 * v + c).toInt = 10 * v.toInt + c.toInt := by
    rw [Int32.toInt_add, e1, Int.bmod_eq_of_le] <;> omega
  have e3 : (10 * v + c - 48).toInt = 10 * v.toInt + c.toInt - 48 := by
    have z : (48 : Int32).toInt = 48 := rfl
    rw [Int32.toInt_sub, e2, z, Int.bmod_eq_of_le] <;> omega
  unfold capR
  rw [e3]
  omega
def nzA (f : Nat → Int32) (T c V : Nat) : Nat × Nat := numW f T (T - c) c V
theorem nzA_go {f : Nat → Int32} {T c V : Nat} (h : c < T) (h2 : isW (f c) 48 57 = true) : nzA f T c V = nzA f T (c + 1) (10 * V + (f c).toInt.toNat - 48) := by
  unfold nzA
  rw [show T - c = (T - (c + 1)) + 1 by omega]
  simp only [numW]
  rw [if_pos ⟨h, h2⟩]
theorem nzA_st {f : Nat → Int32} {T c V : Nat} (h : ¬ (c < T ∧ isW (f c) 48 57 = true)) : nzA f T c V = (c, V) := by
  unfold nzA
  cases T - c with
  | zero => rfl
  | succ k => simp only [numW]; rw [if_neg h]
theorem capR_in {v a b : Int32} {V lo hi : Nat} (h : capR v V) (ha : a.toInt = (lo : Int)) (hb : b.toInt = (hi : Int)) (hh : hi ≤ 9999) : (isW v a b = true ↔ lo ≤ V ∧ V ≤ hi) ∧ (isW v a b = true → v = nI V) := by
  have e : isW v a b = true ↔ lo ≤ V ∧ V ≤ hi := by
    unfold isW capR at *
    rw [decide_eq_true_iff, ha, hb]
    omega
  refine ⟨e, fun q => ?_⟩
  have := e.mp q
  apply Int32.toInt_inj.mp
  unfold capR at h
  rw [nI_toInt (by omega)]
  omega
def frN (m : Nat) (I I' : IM) : Prop := ∀ c k, (c ≠ m ∨ (k ≠ 10 ∧ k ≠ 11)) → I' c k = I c k
def okZ (f : Nat → Int32) (T a lo hi : Nat) : Prop := isDg f (skB f a T) T = true ∧ lo ≤ (numZ f T (skB f a T)).2 ∧ (numZ f T (skB f a T)).2 ≤ hi
def numP (sh : Sh) (I : IM) (L : LM) (R : RM) (m T a lo hi : Nat) (low : Int32) (wr : Bool) : PPost := fun ret sh' I' L' R' => sh' = sh ∧ R' = R ∧ L' = L ∧ frN m I I' ∧ ∃ v : Int32, ret = some (.int v) ∧
  ((I' m 11 = 0 ∧ wr = false ∧ okZ (I (m + 7)) T a lo hi ∧ v = nI (numZ (I (m + 7)) T (skB (I (m + 7)) a T)).2 ∧ I' m 10 = nI (numZ (I (m + 7)) T (skB (I (m + 7)) a T)).1) ∨
   (I' m 11 = 1 ∧ (v = 0 ∨ v = low) ∧ (wr = false → ¬ okZ (I (m + 7)) T a lo hi ∧ I' m 10 = nI (skB (I (m + 7)) a T)) ∧ (wr = true → I' m 10 = I m 10)))
theorem frN_t {m : Nat} {I I' I'' : IM} (h1 : frN m I I') (h2 : frN m I' I'') : frN m I I'' := fun c k q => (h2 c k q).trans (h1 c k q)
theorem frN_u {m k : Nat} {I : IM} {x : Int32} (h : k = 10 ∨ k = 11) : frN m I (u2 I m k x) := fun c j q => by unfold u2; rw [if_neg (by omega)]
theorem frN_0 {m : Nat} {I : IM} : frN m I I := fun _ _ _ => rfl
theorem frN_f {m : Nat} {I I' : IM} (h : frN m I I') {j : Nat} (hj : 0 < j) : I' (m + j) = I (m + j) := funext fun k => h _ k (by omega)
theorem num_bad {sh : Sh} {I I' : IM} {L : LM} {R : RM} {m T a lo hi : Nat} {low : Int32} {wr : Bool} (f : frN m I I') (h1 : wr = false → ¬ okZ (I (m + 7)) T a lo hi ∧ I' m 10 = nI (skB (I (m + 7)) a T)) (h2 : wr = true → I' m 10 = I m 10) (h3 : I' m 11 = 1) : numP sh I L R m T a lo hi low wr (some (.int 0)) sh I' L R := ⟨rfl, rfl, rfl, f, 0, rfl, Or.inr ⟨h3, Or.inl rfl, h1, h2⟩⟩
theorem num_ok {sh : Sh} {I I2 I' : IM} {L : LM} {R : RM} {m T a lo hi c V : Nat} {low v b1 : Int32} {wr : Bool} (f : frN m I I2) (hwr : wr = false) (hd : isW (nxt (I (m + 7)) (skB (I (m + 7)) a T) T) 48 57 = true) (hZ : numZ (I (m + 7)) T (skB (I (m + 7)) a T) = (c, V)) (ha : I2 m 10 = nI c) (hin : (isW v low b1 = true ↔ lo ≤ V ∧ V ≤ hi) ∧ (isW v low b1 = true → v = nI V)) (hc : isW v low b1 = true) (hI : I' = u2 (u2 I2 m 11 0) m 10 (u2 I2 m 11 0 m 10)) : numP sh I L R m T a lo hi low wr (some (.int v)) sh I' L R := by
  subst hI
  refine ⟨rfl, rfl, rfl, frN_t f (frN_t (frN_u (Or.inr rfl)) (frN_u (Or.inl rfl))), v, rfl, Or.inl ⟨by rw [u2_n2 (by decide), u2_s], hwr, ?_, ?_, ?_⟩⟩
  · unfold okZ
    rw [hZ]
    exact ⟨hd, hin.1.mp hc⟩
  · rw [hZ]
    exact hin.2 hc
  · rw [hZ, u2_s, u2_n2 (by decide)]
    exact ha
theorem num_no {sh : Sh} {I I2 I' : IM} {L : LM} {R : RM} {m T a lo hi c V : Nat} {low v b1 fi : Int32} {wr : Bool} (f : frN m I I2) (hwr : wr = false) (hZ : numZ (I (m + 7)) T (skB (I (m + 7)) a T) = (c, V)) (hin : (isW v low b1 = true ↔ lo ≤ V ∧ V ≤ hi) ∧ (isW v low b1 = true → v = nI V)) (hc : isW v low b1 = false) (hf : fi = nI (skB (I (m + 7)) a T)) (hI : I' = u2 (u2 I2 m 11 1) m 10 fi) : numP sh I L R m T a lo hi low wr (some (.int low)) sh I' L R := by
  subst hI
  refine ⟨rfl, rfl, rfl, frN_t f (frN_t (frN_u (Or.inr rfl)) (frN_u (Or.inl rfl))), low, rfl, Or.inr ⟨by rw [u2_n2 (by decide), u2_s], Or.inr rfl, fun _ => ⟨fun q => ?_, by rw [u2_s]; exact hf⟩, fun q => absurd (hwr.symm.trans q) (by decide)⟩⟩
  unfold okZ at q
  rw [hZ] at q
  rw [hin.1.mpr q.2] at hc
  cases hc
