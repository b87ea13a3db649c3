/-! helpers of the walks: counters, searches, sums -/
theorem k_lt {v c : Int32} {i n : Nat} (hv : v = nI i) (hc : c = nI n) (hi : i < 2 ^ 31) (hn : n < 2 ^ 31) (h : ¬ c ≤ v) : i < n := by
  subst hv; subst hc
  rw [nI_leI hn hi] at h
  omega
theorem k_ge {v c : Int32} {i n : Nat} (hv : v = nI i) (hc : c = nI n) (hi : i < 2 ^ 31) (hn : n < 2 ^ 31) (h : c ≤ v) : n ≤ i := by
  subst hv; subst hc
  exact (nI_leI hn hi).mp h
theorem k_lt2 {v c : Int32} {i n : Nat} (hv : v = nI i) (hc : c = nI n) (hi : i < 2 ^ 31) (hn : n < 2 ^ 31) (h : v < c) : i < n := by
  subst hv; subst hc
  exact (nI_ltI hi hn).mp h
theorem k_ge2 {v c : Int32} {i n : Nat} (hv : v = nI i) (hc : c = nI n) (hi : i < 2 ^ 31) (hn : n < 2 ^ 31) (h : ¬ v < c) : n ≤ i := by
  subst hv; subst hc
  rw [nI_ltI hi hn] at h
  omega
theorem k_up {v w : Int32} {i : Nat} (hw : w = v + 1) (hv : v = nI i) : w = nI (i + 1) := by
  subst hw; subst hv
  exact nI_1 i
theorem k_ix {v : Int32} {i N : Nat} (hv : v = nI i) (hi : i < N) (hN : N < 2 ^ 31) : px_ix v N i := by
  subst hv
  exact px_ix_nI hi hN
/-- the first place below n that holds p -/
def srch (f : Nat → Int32) (p : Int32) : Nat → Option Nat
  | 0 => none
  | n + 1 => match srch f p n with
    | some i => some i
    | none => if f n = p then some n else none
def sIdx (o : Option Nat) (d : Int32) : Int32 := match o with
  | some i => nI i
  | none => d
theorem srch_no {f : Nat → Int32} {p : Int32} {i : Nat} (h : srch f p i = none) (hp : ¬ f i = p) : srch f p (i + 1) = none := by
  simp [srch, h, hp]
theorem srch_at {f : Nat → Int32} {p : Int32} {i : Nat} (h : srch f p i = none) (hp : f i = p) : ∀ n, i < n → srch f p n = some i := by
  intro n hn
  induction n with
  | zero => omega
  | succ n ih =>
    rcases Nat.lt_or_ge i n with q | q
    · simp [srch, ih q]
    · have : n = i := by omega
      subst this
      simp [srch, h, hp]
theorem srch_some {f : Nat → Int32} {p : Int32} {n i : Nat} (h : srch f p n = some i) : i < n ∧ f i = p := by
  induction n with
  | zero => cases h
  | succ n ih =>
    unfold srch at h
    cases e : srch f p n with
    | some j =>
      rw [e] at h
      cases h
      have := ih e
      exact ⟨by omega, this.2⟩
    | none =>
      rw [e] at h
      simp only at h
      split at h
      · cases h
        exact ⟨by omega, by assumption⟩
      · cases h
theorem srch_none {f : Nat → Int32} {p : Int32} {n : Nat} (h : srch f p n = none) : ∀ i, i < n → ¬ f i = p := by
  induction n with
  | zero => intro i hi; omega
  | succ n ih =>
    intro i hi
    unfold srch at h
    cases e : srch f p n with
    | some j => rw [e] at h; cases h
    | none =>
      rw [e] at h
      simp only at h
      split at h
      · cases h
      · rename_i hp
        rcases Nat.lt_or_ge i n with q | q
        · exact ih e i q
        · have : i = n := by omega
          subst this
          exact hp
theorem srch_congr {f g : Nat → Int32} {p : Int32} {n : Nat} (h : ∀ i, i < n → f i = g i) : srch f p n = srch g p n := by
  induction n with
  | zero => rfl
  | succ n ih => simp only [srch]; rw [ih (fun i hi => h i (by omega)), h n (by omega)]
/-- how many below n are less than p -/
def cntL (f : Nat → Int32) (p : Int32) : Nat → Nat
  | 0 => 0
  | n + 1 => cntL f p n + (if f n < p then 1 else 0)
theorem cntL_le {f : Nat → Int32} {p : Int32} {n : Nat} : cntL f p n ≤ n := by
  induction n with
  | zero => exact Nat.le_refl _
  | succ n ih => simp only [cntL]; split <;> omega
def cntP (f : Nat → Int32) : Nat → Nat
  | 0 => 0
  | n + 1 => cntP f n + (if 0 < f n then 1 else 0)
theorem cntP_le {f : Nat → Int32} {n : Nat} : cntP f n ≤ n := by
  induction n with
  | zero => exact Nat.le_refl _
  | succ n ih => simp only [cntP]; split <;> omega
/-- sums with the machine's wrap-around -/
def sumI (f : Nat → Int32) : Nat → Int32
  | 0 => 0
  | n + 1 => sumI f n + f n
def sumL (f : Nat → Int64) : Nat → Int64
  | 0 => 0
  | n + 1 => sumL f n + f n
theorem sumI_congr {f g : Nat → Int32} {n : Nat} (h : ∀ i, i < n → f i = g i) : sumI f n = sumI g n := by
  induction n with
  | zero => rfl
  | succ n ih => simp only [sumI]; rw [ih (fun i hi => h i (by omega)), h n (by omega)]
/-- the facts of a Line at cell b -/
def LineF (sh : Sh) (R : RM) (b : Nat) : Prop := sh[b]? = some (.inl 2) ∧ sh[b + 1]? = some (.inr (.int, 6)) ∧ sh[b + 2]? = some (.inr (.int, 6)) ∧ sh[b + 3]? = some (.inr (.int, 6)) ∧ sh[b + 4]? = some (.inr (.int, 6)) ∧ sh[b + 5]? = some (.inr (.int, 13)) ∧ R b 1 = some (b + 1) ∧ R b 2 = some (b + 2) ∧ R b 3 = some (b + 3) ∧ R b 4 = some (b + 4) ∧ R b 5 = some (b + 5)
/-- an answer, and a memory of ints -/
def pMem (v : Option Value) (sh : Sh) (I : IM) (L : LM) (R : RM) : PPost := pRet v sh I L R
theorem u1_zero {I : IM} {a b : Nat} {v : Int32} (h : a ≠ b := by omega) : u1 (u2 I b 0 v) a (fun j => if j < 0 then 0 else I a j) = u2 I b 0 v := by
  funext c k
  by_cases e : c = a
  · subst e
    simp [u1, u2, h]
  · simp [u1, e]
theorem u1_step {I : IM} {a i : Nat} {g : Nat → Int32} {z : Int32} : u2 (u1 I a (fun j => if j < i then z else g j)) a i z = u1 I a (fun j => if j < i + 1 then z else g j) := by
  funext c k
  by_cases e : c = a
  · subst e
    by_cases e2 : k = i
    · subst e2
      simp [u1, u2]
    · have : (k < i + 1) = (k < i) := by
        apply propext
        omega
      simp [u1, u2, e2, this]
  · simp [u1, u2, e]
/-- four rows of a Line anew -/
def m4 (I : IM) (b : Nat) (g1 g2 g3 g4 : Nat → Int32) : IM := fun c k => if c = b + 1 then g1 k else if c = b + 2 then g2 k else if c = b + 3 then g3 k else if c = b + 4 then g4 k else I c k
theorem m4_1 {I : IM} {b k : Nat} {g1 g2 g3 g4 : Nat → Int32} : m4 I b g1 g2 g3 g4 (b + 1) k = g1 k := by simp [m4]
theorem m4_2 {I : IM} {b k : Nat} {g1 g2 g3 g4 : Nat → Int32} : m4 I b g1 g2 g3 g4 (b + 2) k = g2 k := by simp [m4]
theorem m4_3 {I : IM} {b k : Nat} {g1 g2 g3 g4 : Nat → Int32} : m4 I b g1 g2 g3 g4 (b + 3) k = g3 k := by simp [m4]
theorem m4_4 {I : IM} {b k : Nat} {g1 g2 g3 g4 : Nat → Int32} : m4 I b g1 g2 g3 g4 (b + 4) k = g4 k := by simp [m4]
theorem m4_0 {I : IM} {b k : Nat} {g1 g2 g3 g4 : Nat → Int32} : m4 I b g1 g2 g3 g4 b k = I b k := by simp [m4]
theorem m4_5 {I : IM} {b c k : Nat} {g1 g2 g3 g4 : Nat → Int32} (h : c < b + 1 ∨ b + 4 < c) : m4 I b g1 g2 g3 g4 c k = I c k := by
  unfold m4
  rw [if_neg (by omega), if_neg (by omega), if_neg (by omega), if_neg (by omega)]
theorem m4_set {I : IM} {b t : Nat} {g1 g2 g3 g4 : Nat → Int32} {x1 x2 x3 x4 : Int32} : u2 (u2 (u2 (u2 (m4 I b g1 g2 g3 g4) (b + 1) t x1) (b + 2) t x2) (b + 3) t x3) (b + 4) t x4 = m4 I b (upd g1 t x1) (upd g2 t x2) (upd g3 t x3) (upd g4 t x4) := by
  funext c k
  by_cases h1 : c = b + 1
  · subst h1
    simp [m4, u2, upd]
  · by_cases h2 : c = b + 2
    · subst h2
      simp [m4, u2, upd]
    · by_cases h3 : c = b + 3
      · subst h3
        simp [m4, u2, upd]
      · by_cases h4 : c = b + 4
        · subst h4
          simp [m4, u2, upd]
        · simp [m4, u2, h1, h2, h3, h4]
theorem m4_self {I : IM} {b : Nat} : m4 I b (I (b + 1)) (I (b + 2)) (I (b + 3)) (I (b + 4)) = I := by
  funext c k
  unfold m4
  split
  · rename_i h; rw [h]
  · split
    · rename_i h; rw [h]
    · split
      · rename_i h; rw [h]
      · split
        · rename_i h; rw [h]
        · rfl
/-- moved up by one behind t, to n -/
def shF (f : Nat → Int32) (t n : Nat) : Nat → Int32 := fun j => if t < j ∧ j ≤ n then f (j - 1) else f j
theorem shF_0 {f : Nat → Int32} {n : Nat} : shF f n n = f := by
  funext j
  unfold shF
  rw [if_neg (by omega)]
theorem shF_s {f : Nat → Int32} {t n : Nat} (h0 : 0 < t) (h : t ≤ n) : upd (shF f t n) t (shF f t n (t - 1)) = shF f (t - 1) n := by
  funext j
  unfold upd shF
  by_cases e : j = t
  · subst e
    rw [if_pos rfl, if_neg (by omega), if_pos (by omega)]
  · rw [if_neg e]
    by_cases q : t < j ∧ j ≤ n
    · rw [if_pos q, if_pos (by omega)]
    · rw [if_neg q, if_neg (by omega)]
def insF (f : Nat → Int32) (m n : Nat) (x : Int32) : Nat → Int32 := upd (shF f m n) m x
/-- one out: at m, of n -/
def dlF (f : Nat → Int32) (m t : Nat) : Nat → Int32 := fun j => if m ≤ j ∧ j < t then f (j + 1) else f j
theorem dlF_0 {f : Nat → Int32} {m : Nat} : dlF f m m = f := by
  funext j
  unfold dlF
  rw [if_neg (by omega)]
theorem dlF_s {f : Nat → Int32} {m t : Nat} (h : m ≤ t) : upd (dlF f m t) t (dlF f m t (t + 1)) = dlF f m (t + 1) := by
  funext j
  unfold upd dlF
  by_cases e : j = t
  · subst e
    rw [if_pos rfl, if_neg (by omega), if_pos (by omega)]
  · rw [if_neg e]
    by_cases q : m ≤ j ∧ j < t
    · rw [if_pos q, if_pos (by omega)]
    · rw [if_neg q, if_neg (by omega)]
theorem k_dn {v w : Int32} {i : Nat} (hw : w = v + (-1)) (hv : v = nI i) (hi : 0 < i) : w = nI (i - 1) := by
  subst hw; subst hv
  obtain ⟨j, rfl⟩ : ∃ j, i = j + 1 := ⟨i - 1, by omega⟩
  exact pk_m1 j
theorem k_dn1 {v : Int32} {i : Nat} (hv : v = nI i) (hi : 0 < i) : v - 1 = nI (i - 1) := by
  subst hv
  obtain ⟨j, rfl⟩ : ∃ j, i = j + 1 := ⟨i - 1, by omega⟩
  exact nI_pred j
/-- a number less n others; the moments; WEAR -/
def missI (a : Int32) (f : Nat → Int32) : Nat → Int32
  | 0 => a
  | n + 1 => missI a f n - f n
def momI (f : Nat → Int32) : Nat → Int32
  | 0 => 0
  | n + 1 => momI f n + nI n * f n
def missM (a : Int32) (f g : Nat → Int32) : Nat → Int32
  | 0 => a
  | n + 1 => missM a f g n - f n * g n
def wrongB (d e p : Int32) : Bool := decide (¬ d = 0 ∧ d * p = e)
def wearQ (w : Int32) : Int32 := (if (10000 : Int64) = 0 then 0 else w.toInt64 / 10000).toInt32
def wearW (w : Int32) : Int32 := w - wearQ w * 10000
def wearO (o w : Int32) : Int32 := if (-50 : Int32) < o - wearQ w then o - wearQ w else -50
theorem u2_u2 {α : Type} {f : Nat → Nat → α} {a i : Nat} {x y : α} : u2 (u2 f a i x) a i y = u2 f a i y := by
  funext c k
  unfold u2
  split <;> rfl
/-- the facts of a Sheet at cell b -/
def SheetF (sh : Sh) (R : RM) (b : Nat) : Prop := sh[b]? = some (.inl 6) ∧ sh[b + 1]? = some (.inr (.int, 13)) ∧ R b 3 = some (b + 1)
theorem u1_none {I : IM} {a : Nat} {g : Nat → Int32} {z : Int32} (h : ∀ j, I a j = g j) : I = u1 I a (fun j => if j < 0 then z else g j) := by
  funext c k
  by_cases e : c = a
  · subst e
    simp [u1, h]
  · simp [u1, e]
def hasB (c i n : Int32) : Bool := decide (¬ i < 0 ∧ ¬ n < 0 ∧ ¬ c < n ∧ ¬ c - n < i)
def faultS (held lane c l i n : Int32) : Int32 := if held = 0 then -11 else if lane = l then (if hasB c i n = true then 0 else -13) else -12
/-- the facts of the model at cell m -/
def ModF (sh : Sh) (R : RM) (m : Nat) : Prop := sh[m]? = some (.inl 8) ∧ sh[m + 1]? = some (.inr (.int, 6)) ∧ sh[m + 2]? = some (.inr (.int, 6)) ∧ sh[m + 3]? = some (.inr (.int, 6)) ∧ sh[m + 4]? = some (.inr (.int, 6)) ∧ sh[m + 5]? = some (.inr (.int, 13)) ∧ sh[m + 6]? = some (.inr (.int, 52)) ∧ sh[m + 7]? = some (.inr (.int, 120)) ∧ sh[m + 8]? = some (.inr (.int, 6)) ∧ sh[m + 9]? = some (.inr (.int, 6)) ∧ sh[m + 10]? = some (.inr (.int, 13)) ∧ sh[m + 11]? = some (.inr (.int, 7)) ∧ sh[m + 12]? = some (.inr (.int, 7)) ∧ sh[m + 13]? = some (.inr (.int, 13)) ∧ sh[m + 14]? = some (.inr (.long, 7)) ∧ sh[m + 15]? = some (.inr (.long, 7)) ∧ sh[m + 16]? = some (.inr (.long, 7)) ∧ sh[m + 17]? = some (.inr (.long, 7)) ∧ sh[m + 18]? = some (.inr (.long, 8)) ∧ sh[m + 19]? = some (.inr (.long, 9)) ∧ sh[m + 20]? = some (.inr (.int, 7)) ∧ sh[m + 21]? = some (.inr (.int, 7)) ∧ sh[m + 22]? = some (.inr (.int, 6)) ∧ sh[m + 23]? = some (.inr (.int, 6)) ∧ sh[m + 24]? = some (.inr (.int, 4)) ∧ sh[m + 25]? = some (.inr (.int, 4)) ∧ sh[m + 26]? = some (.inr (.int, 52)) ∧ sh[m + 27]? = some (.inr (.int, 13)) ∧ R m 1 = some (m + 1) ∧ R m 2 = some (m + 2) ∧ R m 3 = some (m + 3) ∧ R m 4 = some (m + 4) ∧ R m 5 = some (m + 5) ∧ R m 6 = some (m + 6) ∧ R m 8 = some (m + 7) ∧ R m 13 = some (m + 8) ∧ R m 14 = some (m + 9) ∧ R m 15 = some (m + 10) ∧ R m 20 = some (m + 11) ∧ R m 21 = some (m + 12) ∧ R m 22 = some (m + 13) ∧ R m 23 = some (m + 14) ∧ R m 24 = some (m + 15) ∧ R m 25 = some (m + 16) ∧ R m 26 = some (m + 17) ∧ R m 27 = some (m + 18) ∧ R m 28 = some (m + 19) ∧ R m 33 = some (m + 20) ∧ R m 34 = some (m + 21) ∧ R m 35 = some (m + 22) ∧ R m 39 = some (m + 23) ∧ R m 40 = some (m + 24) ∧ R m 41 = some (m + 25) ∧ R m 42 = some (m + 26) ∧ R m 43 = some (m + 27)
theorem isWL_32 {v a b : Int32} {a' b' : Int64} (ha : a'.toInt = a.toInt) (hb : b'.toInt = b.toInt) : isWL v.toInt64 a' b' = isW v a b := by
  unfold isWL isW
  rw [ha, hb, Int32.toInt_toInt64]
theorem isB_64 {v : Int32} {n : Nat} (h : n ≤ 6) : isWL v.toInt64 0 (nI n - 1).toInt64 = decide (0 ≤ v.toInt ∧ v.toInt < n) := by
  unfold isWL
  rw [Int32.toInt_toInt64, Int32.toInt_toInt64, show (nI n - 1).toInt = (n : Int) - 1 from pk_sub_toInt (b := 1) (by omega) (by omega)]
  simp only [decide_eq_decide]
  show (0 : Int) ≤ _ ∧ _ ↔ _
  omega
/-- the facts of the class's object (cell 0) and of what it holds; not the two references that change (Reader's text, Planner's line) -/
def ClassF (sh : Sh) (R : RM) : Prop := sh[0]? = some (.inl 7) ∧ R 0 0 = some 1 ∧ R 0 1 = some 7 ∧ R 0 2 = some 12 ∧ R 0 4 = some 13 ∧ R 0 5 = some 20 ∧ R 0 6 = some 21 ∧ R 0 7 = some 33 ∧ R 0 8 = some 45 ∧ R 0 13 = some 61 ∧ R 0 15 = some 71 ∧ R 0 16 = some 72 ∧
  LineF sh R 1 ∧ sh[7]? = some (.inr (.array .int, 4)) ∧ (∀ s, s < 4 → R 7 s = some (8 + s)) ∧ (∀ s, s < 4 → sh[8 + s]? = some (.inr (.int, 13))) ∧ sh[12]? = some (.inr (.byte, 120)) ∧ sh[20]? = some (.inr (.object RX6, 4)) ∧ (∀ s, s < 4 → R 20 s = some (73 + 2 * s)) ∧ (∀ s, s < 4 → SheetF sh R (73 + 2 * s)) ∧ sh[71]? = some (.inl 1) ∧ sh[72]? = some (.inl 1)
theorem k_isW {v : Int32} {a b : Int32} {c d : Int} (h : isW v a b = true) (ha : a.toInt = c) (hb : b.toInt = d) : c ≤ v.toInt ∧ v.toInt ≤ d := by
  unfold isW at h
  have := of_decide_eq_true h
  omega
/-- a number within 0 .. n is one of these -/
theorem k_nat {v : Int32} {n : Nat} (h0 : 0 ≤ v.toInt) (h1 : v.toInt ≤ n) (hn : n < 2 ^ 31) : ∃ j : Nat, j ≤ n ∧ v = nI j := by
  refine ⟨v.toInt.toNat, by omega, ?_⟩
  apply Int32.toInt_inj.mp
  rw [nI_toInt (by omega)]
  omega
/-- what forgetAnswers does -/
def forgI (I : IM) : IM := u2 (u2 I 0 9 (-1)) 0 14 0
theorem forgI_at {I : IM} {c k : Nat} (h : c ≠ 0) : forgI I c k = I c k := by
  unfold forgI
  rw [u2_n1 h, u2_n1 h]
def pIf (c : Bool) (P Q : PPost) : PPost := fun r sh I L R => (c = true ∧ P r sh I L R) ∨ (c = false ∧ Q r sh I L R)
theorem pIf_t {c : Bool} {P Q : PPost} {r : Option Value} {sh : Sh} {I : IM} {L : LM} {R : RM} (h : c = true) (hp : P r sh I L R) : pIf c P Q r sh I L R := Or.inl ⟨h, hp⟩
theorem pIf_f {c : Bool} {P Q : PPost} {r : Option Value} {sh : Sh} {I : IM} {L : LM} {R : RM} (h : c = false) (hp : Q r sh I L R) : pIf c P Q r sh I L R := Or.inr ⟨h, hp⟩
theorem pRet_self {v : Option Value} {sh : Sh} {I : IM} {L : LM} {R : RM} : pRet v sh I L R v sh I L R := ⟨rfl, rfl, rfl, rfl, rfl⟩
def isBn (n : Nat) (v : Int32) : Bool := decide (0 ≤ v.toInt ∧ v.toInt < n)
theorem isBn_ix {n N : Nat} {v : Int32} (h : isBn n v = true) (hN : n ≤ N) : px_ix v N v.toNatClampNeg := by
  have := of_decide_eq_true h
  exact ⟨vp_in_iff.mpr ⟨this.1, by omega⟩, rfl⟩
theorem isW_ix {N : Nat} {v a b : Int32} (h : isW v a b = true) (ha : a.toInt = 0) (hN : b.toInt < N) : px_ix v N v.toNatClampNeg := by
  have := of_decide_eq_true h
  exact ⟨vp_in_iff.mpr ⟨by omega, by omega⟩, rfl⟩
theorem px_ix_eq {N j : Nat} {v : Int32} (h : px_ix v N j) : v = nI j := by
  obtain ⟨h1, rfl⟩ := h
  have h2 := vp_in_iff.mp h1
  apply Int32.toInt_inj.mp
  have : v.toNatClampNeg = v.toInt.toNat := rfl
  have hb := Int32.toInt_lt v
  rw [nI_toInt (by omega)]
  omega
theorem srch_neg {f : Nat → Int32} {p d : Int32} {n : Nat} (hn : n < 2 ^ 31) (hd : d.toInt < 0) : sIdx (srch f p n) d < 0 ↔ (srch f p n).isNone = true := by
  cases h : srch f p n with
  | none =>
    simp only [sIdx, Option.isNone_none, iff_true]
    rw [Int32.lt_iff_toInt_lt]
    exact hd
  | some i =>
    have := (srch_some h).1
    simp only [sIdx, Option.isNone_some, Bool.false_eq_true, iff_false]
    exact nI_pos (by omega)
theorem lt_of_nI6 {x : Int32} {n : Nat} (hn : x = nI n) (h : x < 6) (hb : n < 2 ^ 31 := by omega) : n < 6 := k_lt2 hn (n := 6) rfl hb (by omega) h
theorem nlt_of_nI6 {x : Int32} {n : Nat} (hn : x = nI n) (h6 : n ≤ 6) (h : ¬ x < 6) : decide (n < 6) = false := decide_eq_false (fun q => h (by rw [hn]; exact nI_lt (a := n) (b := 6) q (by omega)))
/-- a BEARING more in the Line at cell 1; one less -/
def insI (I : IM) (n : Nat) (p v : Int32) : IM := u2 (m4 I 1 (insF (I (1 + 1)) (cntL (I (1 + 1)) p n) n p) (insF (I (1 + 2)) (cntL (I (1 + 1)) p n) n v) (insF (I (1 + 3)) (cntL (I (1 + 1)) p n) n 0) (insF (I (1 + 4)) (cntL (I (1 + 1)) p n) n 0)) 1 0 (nI (n + 1))
def delI (I : IM) (n m : Nat) : IM := u2 (m4 I 1 (dlF (I (1 + 1)) m (n - 1)) (dlF (I (1 + 2)) m (n - 1)) (dlF (I (1 + 3)) m (n - 1)) (dlF (I (1 + 4)) m (n - 1))) 1 0 (nI (n - 1))
/-- where puts stops: behind the last below t that is not greater than p -/
def insP (f : Nat → Int32) (p : Int32) : Nat → Nat
  | 0 => 0
  | t + 1 => if p < f t then insP f p t else t + 1
theorem insP_le {f : Nat → Int32} {p : Int32} : ∀ t, insP f p t ≤ t
  | 0 => Nat.le_refl _
  | t + 1 => by
    have := insP_le (f := f) (p := p) t
    simp only [insP]
    split <;> omega
theorem k_0 {v : Int32} {t : Nat} (hv : v = nI t) (ht : t < 2 ^ 31) (h : v ≤ 0) : t = 0 := by
  have := k_ge (v := 0) (c := v) (i := 0) (n := t) rfl hv (by omega) ht h
  omega
theorem k_p {v : Int32} {t : Nat} (hv : v = nI t) (ht : t < 2 ^ 31) (h : ¬ v ≤ 0) : 0 < t := by
  rcases Nat.eq_zero_or_pos t with e | e
  · subst e
    subst hv
    exact absurd (by decide) h
  · exact e
def insM (I : IM) (m n : Nat) (p v : Int32) : IM := u2 (m4 I m (insF (I (m + 1)) (insP (I (m + 1)) p n) n p) (insF (I (m + 2)) (insP (I (m + 1)) p n) n v) (insF (I (m + 3)) (insP (I (m + 1)) p n) n 0) (insF (I (m + 4)) (insP (I (m + 1)) p n) n 0)) m 0 (nI (n + 1))
def delM (I : IM) (m n j : Nat) : IM := u2 (m4 I m (dlF (I (m + 1)) j (n - 1)) (dlF (I (m + 2)) j (n - 1)) (dlF (I (m + 3)) j (n - 1)) (dlF (I (m + 4)) j (n - 1))) m 0 (nI (n - 1))
theorem u2_x {α : Type} {f : Nat → Nat → α} {a b j k c : Nat} {v : α} (h : a ≠ c) : u2 f c k v a b = f a b := u2_n1 h
theorem lt_of_ne6 {x : Int32} {n : Nat} (hn : x = nI n) (h6 : n ≤ 6) (h : ¬ x = 6) : n < 6 := by
  rcases Nat.lt_or_ge n 6 with q | q
  · exact q
  · have e : n = 6 := by omega
    subst e
    exact absurd hn h
theorem nlt_of_eq6 {x : Int32} {n : Nat} (hn : x = nI n) (h6 : n ≤ 6) (h : x = 6) : decide (n < 6) = false := by
  refine decide_eq_false (fun q => ?_)
  have h2 : nI n = nI 6 := hn.symm.trans h
  rw [nI_eq (by omega) (by omega)] at h2
  omega
theorem px_ix_13 {s p : Int32} {s' p' : Nat} (hs : px_ix s 4 s') (hp : px_ix p 13 p') : px_ix (13 * s + p) 52 (13 * s' + p') := by
  have h1 := px_ix_lt hs
  have h2 := px_ix_lt hp
  have e : (13 : Int32) * s + p = nI (13 * s' + p') := by
    rw [px_ix_eq hs, px_ix_eq hp, ← nI_add, ← pk_mul]
    rfl
  rw [e]
  exact px_ix_nI (by omega) (by decide)
theorem k_four {w : Int32} (h : isW w 0 3 = true) : w = 0 ∨ w = 1 ∨ w = 2 ∨ w = 3 := by
  have h1 := k_isW (c := 0) (d := 3) h rfl rfl
  obtain ⟨j, hj, rfl⟩ := k_nat (n := 3) h1.1 h1.2 (by decide)
  match j, hj with
  | 0, _ => exact Or.inl rfl
  | 1, _ => exact Or.inr (Or.inl rfl)
  | 2, _ => exact Or.inr (Or.inr (Or.inl rfl))
  | 3, _ => exact Or.inr (Or.inr (Or.inr rfl))
theorem k_five (w : Int32) : w = 0 ∨ w = 1 ∨ w = 2 ∨ w = 3 ∨ (w.toInt < 0 ∨ 3 < w.toInt) := by
  by_cases h : 0 ≤ w.toInt ∧ w.toInt ≤ 3
  · have := k_four (w := w) (decide_eq_true h)
    rcases this with h | h | h | h
    · exact Or.inl h
    · exact Or.inr (Or.inl h)
    · exact Or.inr (Or.inr (Or.inl h))
    · exact Or.inr (Or.inr (Or.inr (Or.inl h)))
  · omega
def cntA (n : Nat) (a F : Int32) (k : Nat) (w : Int32) : Int32 := if w = 0 then nI n else if w = 1 then a else if w = 2 then F else if w = 3 then nI k else -1
theorem cntA_out {n : Nat} {a F : Int32} {k : Nat} {w : Int32} (h : w.toInt < 0 ∨ 3 < w.toInt) : cntA n a F k w = -1 := by
  unfold cntA
  rw [if_neg, if_neg, if_neg, if_neg] <;> (intro e; subst e; revert h; decide)
/-- the first below n of which g is true -/
def fstB (g : Nat → Bool) : Nat → Option Nat
  | 0 => none
  | n + 1 => match fstB g n with
    | some i => some i
    | none => if g n = true then some n else none
theorem fstB_no {g : Nat → Bool} {i : Nat} (h : fstB g i = none) (hp : g i = false) : fstB g (i + 1) = none := by
  simp [fstB, h, hp]
theorem fstB_at {g : Nat → Bool} {i : Nat} (h : fstB g i = none) (hp : g i = true) : ∀ n, i < n → fstB g n = some i := by
  intro n hn
  induction n with
  | zero => omega
  | succ n ih =>
    rcases Nat.lt_or_ge i n with q | q
    · simp [fstB, ih q]
    · have : n = i := by omega
      subst this
      simp [fstB, h, hp]
theorem fstB_congr {f g : Nat → Bool} {n : Nat} (h : ∀ i, i < n → f i = g i) : fstB f n = fstB g n := by
  induction n with
  | zero => rfl
  | succ n ih => simp only [fstB]; rw [ih (fun i hi => h i (by omega)), h n (by omega)]
def closesS (n : Nat) (d e : Int32) (pl : Nat → Int32) : Int32 := if n = 0 then -4 else if d = 0 ∧ e = 0 then 1 else match fstB (fun b => wrongB d e (pl b)) n with
  | some b => 10 + nI b
  | none => 0
theorem closesS_0 {d e : Int32} {pl : Nat → Int32} : closesS 0 d e pl = -4 := rfl
theorem closesS_1 {n : Nat} {d e : Int32} {pl : Nat → Int32} (hn : ¬ n = 0) (h : d = 0 ∧ e = 0) : closesS n d e pl = 1 := by
  unfold closesS
  rw [if_neg hn, if_pos h]
theorem closesS_2 {n i : Nat} {d e : Int32} {pl : Nat → Int32} (hn : ¬ n = 0) (h : ¬ (d = 0 ∧ e = 0)) (hf : fstB (fun b => wrongB d e (pl b)) n = some i) : closesS n d e pl = 10 + nI i := by
  unfold closesS
  rw [if_neg hn, if_neg h, hf]
theorem closesS_3 {n : Nat} {d e : Int32} {pl : Nat → Int32} (hn : ¬ n = 0) (h : ¬ (d = 0 ∧ e = 0)) (hf : fstB (fun b => wrongB d e (pl b)) n = none) : closesS n d e pl = 0 := by
  unfold closesS
  rw [if_neg hn, if_neg h, hf]
theorem k_n0 {x : Int32} {n : Nat} (hx : x = nI n) (hn : n < 2 ^ 31) (h : ¬ x = 0) : ¬ n = 0 := by
  intro e
  subst e
  exact h hx
theorem k_is0 {x : Int32} {n : Nat} (hx : x = nI n) (hn : n < 2 ^ 31) (h : x = 0) : n = 0 := by
  have h2 : nI n = nI 0 := hx.symm.trans h
  rw [nI_eq hn (by omega)] at h2
  exact h2
def nrw (l v : Int32) : Int32 := if l = 0 then v.toInt8.toInt32 else if l = 1 then v.toInt16.toInt32 else v
section PXF
variable {X : PX} {own : String} {cc : ByteArray} {d kc ks pc q : Nat} {lv lv' : List (Nat × Value)} {st st' : List Value} {sh : Sh} {I : IM} {L : LM} {R : RM} {k n : Nat}
theorem pw_copy {a0 a1 N0 N1 ix : Nat} {sp dp c : Int32} (h : PXok X own cc d kc ks) (dc : Dc cc pc (.invokestatic ix) 3 q) (hl : Cond.methodLink own ix arraycopyName ∈ TW) (hd : 1 ≤ d) (hcat : (st.map fun v => v.category).sum ≤ 8) (hs0 : sh[a0]? = some (.inr (.int, N0))) (hs1 : sh[a1]? = some (.inr (.int, N1))) (h1 : ¬ sp < 0) (h2 : ¬ dp < 0) (h3 : ¬ c < 0) (h4 : sp.toNatClampNeg + c.toNatClampNeg ≤ N0) (h5 : dp.toNatClampNeg + c.toNatClampNeg ≤ N1)
    (kk : PW X q lv st sh (u1 I a1 (va_cpy (I a0) (I a1) sp.toNatClampNeg dp.toNatClampNeg c.toNatClampNeg)) L R k n) : PW X pc lv (.int c :: .int dp :: .ref a1 :: .int sp :: .ref a0 :: st) sh I L R k n := by
  intro ad H locs ls hp
  refine va_copyi h.1 h.2.1 hp.2.2.2.2.1.symm h.2.2.2.1 (h.2.2.1 _ hl) (h.2.2.1 _ na_arraycopyName) (h.2.2.1 _ st_arraycopyName) (h.2.2.1 _ ini__java_lang_System_) h.2.2.2.2.1.1 hp.2.1 hp.2.2.1 hp.2.2.2.1 a0 a1 0 0 (px_get hs0) (px_get hs1) rfl rfl rfl h1 h2 h3 h4 h5 (fun _ _ => rfl) (Nat.le_trans hd h.2.2.2.2.2.1) ?_ dc.1 (fun H1 locs1 hP hD hS => ?_)
  · rw [px_catsum]
    have e : nativeFrameWords "java/lang/System" "arraycopy" 5 = 7 := by decide
    have := h.2.2.2.2.2.2.1
    rw [e]
    omega
  · rw [dc.2]
    have e := px_set (cA := xA X) (ad := ad) (I := I) (L := L) (R := R) (I' := u1 I a1 (va_cpy (I a0) (I a1) sp.toNatClampNeg dp.toNatClampNeg c.toNatClampNeg)) (L' := L) (R' := R) (e := Sum.inl (xA X .int, N1, Sum.inl (va_cpy (I a0) (I a1) sp.toNatClampNeg dp.toNatClampNeg c.toNatClampNeg))) hs1 (by show _ = Sum.inl (xA X .int, N1, Sum.inl (u1 I a1 _ a1)); unfold u1; simp) (fun b hb => funext fun _ => by simp [u1, hb]) (fun _ _ => rfl) (fun _ _ => rfl)
    rw [e] at hP hD
    exact kk ad H1 locs1 ls ⟨hp.1, hP, hD, hS, hp.2.2.2.2⟩
end PXF
def begI (I : IM) (b : Nat) (l n : Int32) : IM := u1 (u2 (u2 (u2 I b 0 1) b 1 l) b 2 n) (b + 1) (fun j => if j < 13 then 0 else I (b + 1) j)
theorem faultS_ok {h ln c l i n : Int32} (hf : ¬ faultS h ln c l i n < 0) : ¬ h = 0 ∧ ln = l ∧ hasB c i n = true := by
  unfold faultS at hf
  split at hf
  · exact absurd (by decide) hf
  · split at hf
    · split at hf
      · exact ⟨by assumption, by assumption, by assumption⟩
      · exact absurd (by decide) hf
    · exact absurd (by decide) hf
theorem hasB_in {c i n : Int32} (h : hasB c i n = true) (hc : 0 ≤ c.toInt ∧ c.toInt ≤ 13) : 0 ≤ i.toInt ∧ 0 ≤ n.toInt ∧ i.toInt + n.toInt ≤ c.toInt := by
  obtain ⟨h1, h2, h3, h4⟩ := of_decide_eq_true h
  rw [Int32.lt_iff_toInt_lt] at h1 h2 h3 h4
  have e : (c - n).toInt = c.toInt - n.toInt := by
    rw [Int32.toInt_sub]
    have : (0 : Int32).toInt = 0 := rfl
    rw [Int.bmod_eq_of_le] <;> omega
  have z : (0 : Int32).toInt = 0 := rfl
  rw [e] at h4
  omega
theorem k_nn {z : Int32} (h : 0 ≤ z.toInt) : (z.toNatClampNeg : Int) = z.toInt := by
  show ((z.toInt.toNat : Nat) : Int) = z.toInt
  omega
theorem hasB_ix {c i n : Int32} {k : Nat} (h : hasB c i n = true) (hc : 0 ≤ c.toInt ∧ c.toInt ≤ 13) (hk : (k : Int) < n.toInt) : px_ix (i + nI k) 13 (i.toNatClampNeg + k) := by
  have h1 := hasB_in h hc
  have h2 := k_nn h1.1
  have e : i + nI k = nI (i.toNatClampNeg + k) := by
    have : i = nI i.toNatClampNeg := by
      apply Int32.toInt_inj.mp
      rw [nI_toInt (by omega)]
      omega
    rw [← nI_add, ← this]
  rw [e]
  exact px_ix_nI (by omega) (by decide)
theorem nlt_of_ge {x y : Int32} (h : y ≤ x) : ¬ x < y := by
  rw [Int32.lt_iff_toInt_lt]
  rw [Int32.le_iff_toInt_le] at h
  omega
theorem lt_of_nge {x y : Int32} (h : ¬ y ≤ x) : x < y := by
  rw [Int32.lt_iff_toInt_lt]
  rw [Int32.le_iff_toInt_le] at h
  omega
theorem ge_of_nlt {x y : Int32} (h : ¬ x < y) : y ≤ x := by
  rw [Int32.le_iff_toInt_le]
  rw [Int32.lt_iff_toInt_lt] at h
  omega
def allB (g : Nat → Bool) : Nat → Bool
  | 0 => true
  | n + 1 => allB g n && g n
theorem allB_f {g : Nat → Bool} {k : Nat} (hp : g k = false) : ∀ n, k < n → allB g n = false := by
  intro n hn
  induction n with
  | zero => omega
  | succ n ih =>
    rcases Nat.lt_or_ge k n with q | q
    · simp [allB, ih q]
    · have : n = k := by omega
      subst this
      simp [allB, hp]
theorem allB_congr {f g : Nat → Bool} {n : Nat} (h : ∀ i, i < n → f i = g i) : allB f n = allB g n := by
  induction n with
  | zero => rfl
  | succ n ih => simp only [allB]; rw [ih (fun i hi => h i (by omega)), h n (by omega)]
theorem u1_stepF {α : Type} {I : Nat → Nat → α} {a i : Nat} {F G : Nat → α} : u2 (u1 I a (fun j => if j < i then F j else G j)) a i (F i) = u1 I a (fun j => if j < i + 1 then F j else G j) := by
  funext c k
  by_cases e : c = a
  · subst e
    by_cases e2 : k = i
    · subst e2
      simp [u1, u2]
    · have : (k < i + 1) = (k < i) := by
        apply propext
        omega
      simp [u1, u2, e2, this]
  · simp [u1, u2, e]
theorem u1_stepR {α : Type} {I : Nat → Nat → α} {a b i : Nat} {F G : Nat → α} : u2 (u1 I a (fun j => if b ≤ j ∧ j < b + i then F (j - b) else G j)) a (b + i) (F i) = u1 I a (fun j => if b ≤ j ∧ j < b + (i + 1) then F (j - b) else G j) := by
  funext c k
  by_cases e : c = a
  · subst e
    by_cases e2 : k = b + i
    · subst e2
      simp [u1, u2]
    · have : (b ≤ k ∧ k < b + (i + 1)) = (b ≤ k ∧ k < b + i) := by
        apply propext
        omega
      simp only [u1, u2, e2, this, and_false, if_false, if_true]
  · simp [u1, u2, e]
theorem u1_noneF {α : Type} {I : Nat → Nat → α} {a : Nat} {F G : Nat → α} (h : ∀ j, I a j = G j) : I = u1 I a (fun j => if j < 0 then F j else G j) := by
  funext c k
  by_cases e : c = a
  · subst e
    simp [u1, h]
  · simp [u1, e]
theorem u1_noneR {α : Type} {I : Nat → Nat → α} {a b : Nat} {F G : Nat → α} (h : ∀ j, I a j = G j) : I = u1 I a (fun j => if b ≤ j ∧ j < b + 0 then F (j - b) else G j) := by
  funext c k
  by_cases e : c = a
  · subst e
    have : ¬ (b ≤ k ∧ k < b + 0) := by omega
    simp only [u1, if_true, this, if_false, h]
  · simp [u1, e]
theorem u1_s {α : Type} {f : Nat → Nat → α} {c k : Nat} {g : Nat → α} : u1 f c g c k = g k := by simp [u1]
theorem u1_n {α : Type} {f : Nat → Nat → α} {c a k : Nat} {g : Nat → α} (h : a ≠ c) : u1 f c g a k = f a k := by simp [u1, h]
theorem k_nv {n : Int32} (h0 : 0 ≤ n.toInt) : n = nI n.toNatClampNeg := by
  have h := k_nn h0
  have hb := Int32.toInt_lt n
  apply Int32.toInt_inj.mp
  rw [nI_toInt (by omega)]
  omega
/-- the model's answer about a row -/
def hasM (sz i n : Int32) : Bool := decide (0 ≤ i.toInt ∧ i.toInt + n.toInt ≤ sz.toInt)
def faultM (ln sz l i n : Int32) : Int32 := if ln < 0 then -11 else if ln = l then (if hasM sz i n = true then 0 else -13) else -12
theorem i64_add {a b : Int32} : (a.toInt64 + b.toInt64).toInt = a.toInt + b.toInt := by
  have h1 := Int32.toInt_lt a
  have h2 := Int32.le_toInt a
  have h3 := Int32.toInt_lt b
  have h4 := Int32.le_toInt b
  rw [Int64.toInt_add, Int32.toInt_toInt64, Int32.toInt_toInt64]
  rw [Int.bmod_eq_of_le] <;> omega
theorem faultM_ok {ln sz l i n : Int32} (hf : ¬ faultM ln sz l i n < 0) : ¬ ln < 0 ∧ ln = l ∧ hasM sz i n = true := by
  unfold faultM at hf
  split at hf
  · exact absurd (by decide) hf
  · split at hf
    · split at hf
      · exact ⟨by assumption, by assumption, by assumption⟩
      · exact absurd (by decide) hf
    · exact absurd (by decide) hf
theorem hasM_ix {sz i n s : Int32} {s' k : Nat} (h : hasM sz i n = true) (hc : sz.toInt ≤ 13) (hs : px_ix s 4 s') (hk : (k : Int) < n.toInt) : px_ix (13 * s + i + nI k) 52 (13 * s' + i.toNatClampNeg + k) := by
  have h1 := of_decide_eq_true h
  have h2 := k_nn h1.1
  have h3 := px_ix_lt hs
  have e : (13 : Int32) * s + i + nI k = nI (13 * s' + i.toNatClampNeg + k) := by
    rw [px_ix_eq hs, ← nI_add, ← nI_add, ← pk_mul, ← k_nv h1.1]
    rfl
  rw [e]
  exact px_ix_nI (by omega) (by decide)
/-- byte k of w, from the lowest -/
def byL (w : Int64) (k : Nat) : Int64 := (w >>> ((8 * nI k).toInt64 &&& 63)) &&& 255
def byI (w : Int64) (k : Nat) : Int32 := (byL w k).toInt32
theorem byL_in (w : Int64) (k : Nat) : 0 ≤ (byL w k).toInt ∧ (byL w k).toInt ≤ 255 := by
  unfold byL
  generalize w >>> ((8 * nI k).toInt64 &&& 63) = z
  have e : (z &&& 255).toInt = ((z &&& 255).toBitVec.toNat : Int) := by
    show (z &&& 255).toBitVec.toInt = _
    rw [BitVec.toInt_eq_toNat_of_lt]
    have : (z &&& 255).toBitVec.toNat ≤ 255 := by
      show (z.toBitVec &&& (255 : Int64).toBitVec).toNat ≤ 255
      rw [BitVec.toNat_and]
      exact Nat.and_le_right
    omega
  have : (z &&& 255).toBitVec.toNat ≤ 255 := by
    show (z.toBitVec &&& (255 : Int64).toBitVec).toNat ≤ 255
    rw [BitVec.toNat_and]
    exact Nat.and_le_right
  omega
theorem byI_toInt (w : Int64) (k : Nat) : (byI w k).toInt = (byL w k).toInt := by
  have h := byL_in w k
  unfold byI
  rw [Int64.toInt_toInt32, Int.bmod_eq_of_le] <;> omega
theorem byte_keep {x : Int32} (h0 : 0 ≤ x.toInt) (h1 : x.toInt ≤ 127) : x.toInt8.toInt32 = x := by
  apply Int32.toInt_inj.mp
  rw [Int8.toInt_toInt32, Int32.toInt_toInt8, Int.bmod_eq_of_le] <;> omega
theorem allB_t {g : Nat → Bool} {n : Nat} (h : allB g n = true) : ∀ k, k < n → g k = true := by
  induction n with
  | zero => intro k hk; omega
  | succ n ih =>
    intro k hk
    simp only [allB, Bool.and_eq_true] at h
    rcases Nat.lt_or_ge k n with q | q
    · exact ih h.1 k q
    · have : k = n := by omega
      subst this
      exact h.2
/-- n bytes of w behind T others, in row c, counted at (e, f) -/
def tapI (I : IM) (c e f T : Nat) (w : Int64) (n r : Nat) : IM := u2 (u1 I c (fun j => if T ≤ j ∧ j < T + r then byI w (n - 1 - (j - T)) else I c j)) e f (nI (T + r))
theorem tapI_0 {I : IM} {c e f T : Nat} {w : Int64} {n : Nat} (h : I e f = nI T) : I = tapI I c e f T w n 0 := by
  funext a b
  unfold tapI u2 u1
  split
  · rename_i q
    rw [q.1, q.2, h]
    rfl
  · split
    · rename_i q
      show I a b = if T ≤ b ∧ b < T + 0 then _ else I c b
      rw [if_neg (by omega), q]
    · rfl
theorem tapI_s {I : IM} {c e f T : Nat} {w : Int64} {n r : Nat} {y : Int32} (hce : e ≠ c) (hy : y = byI w (n - 1 - r)) : u2 (u2 (tapI I c e f T w n r) c (T + r) y) e f (nI (T + r) + 1) = tapI I c e f T w n (r + 1) := by
  subst hy
  funext a b
  unfold tapI
  by_cases q : a = e ∧ b = f
  · obtain ⟨rfl, rfl⟩ := q
    rw [u2_s, u2_s, nI_1]
    rfl
  · have q1 : ∀ (g : IM) (x : Int32), u2 g e f x a b = g a b := fun g x => by unfold u2; rw [if_neg q]
    rw [q1, q1]
    by_cases q2 : a = c
    · subst q2
      by_cases q3 : b = T + r
      · subst q3
        rw [u2_s, u1_s, if_pos (by omega)]
        congr 1
        omega
      · rw [u2_n2 q3, q1, u1_s, u1_s]
        by_cases q4 : T ≤ b ∧ b < T + r
        · rw [if_pos q4, if_pos (by omega)]
        · rw [if_neg q4, if_neg (by omega)]
    · rw [u2_n1 q2, q1, u1_n q2, u1_n q2]
theorem tapI_n {I : IM} {c e f T : Nat} {w : Int64} {n r : Nat} : tapI I c e f T w n r e f = nI (T + r) := u2_s
theorem k_neg {v : Int32} {k : Nat} (hv : v = nI k) (hk : k < 2 ^ 31) : ¬ v < 0 := by
  subst hv
  exact nI_pos hk

/-- the facts of a Beam at cell b -/
def BeamF (sh : Sh) (R : RM) (b : Nat) : Prop := sh[b]? = some (.inl 0) ∧ sh[b + 1]? = some (.inr (.int, 7)) ∧ sh[b + 2]? = some (.inr (.int, 7)) ∧ sh[b + 3]? = some (.inr (.long, 7)) ∧ sh[b + 4]? = some (.inr (.long, 13)) ∧ sh[b + 5]? = some (.inr (.long, 13)) ∧ sh[b + 6]? = some (.inr (.long, 7)) ∧ sh[b + 7]? = some (.inr (.long, 7)) ∧ sh[b + 8]? = some (.inr (.long, 7)) ∧ sh[b + 9]? = some (.inr (.long, 7)) ∧ sh[b + 10]? = some (.inr (.long, 7)) ∧ sh[b + 11]? = some (.inr (.long, 7)) ∧
  R b 1 = some (b + 1) ∧ R b 2 = some (b + 2) ∧ R b 3 = some (b + 3) ∧ R b 9 = some (b + 4) ∧ R b 10 = some (b + 5) ∧ R b 11 = some (b + 6) ∧ R b 12 = some (b + 7) ∧ R b 13 = some (b + 8) ∧ R b 14 = some (b + 9) ∧ R b 15 = some (b + 10) ∧ R b 16 = some (b + 11)
def fpL (I : IM) (L : LM) (b : Nat) : Int64 := (I (b + 1) 1).toInt64 * L b 7 - L b 8
def spL (I : IM) (L : LM) (b : Nat) : Int64 := L b 8 - (I (b + 1) 0).toInt64 * L b 7
def cubL (x : Int64) : Int64 := if x.toInt ≤ 0 then 0 else x * x * x
def flL (I : IM) (L : LM) (b p0 : Nat) : Int64 := L b 4 * (6 * L b 5 * (I (b + 2) 0).toInt64 + L (b + 5) p0)
def slL (I : IM) (L : LM) (b p1 : Nat) : Int64 := L b 4 * (6 * L b 5 * (I (b + 2) 1).toInt64 + L (b + 5) p1) - L (b + 3) 0 * L (b + 6) 0 * L (b + 6) 0 * L (b + 6) 0
def hbL (L : LM) (b : Nat) : Int64 := 6 * L b 5 * L (b + 6) 0 * L b 4
/-- what pushes add to c, by the distances' cubes; squares -/
def bulF (c : Int64) (P D : Nat → Int64) : Nat → Int64
  | 0 => c
  | k + 1 => if (D k).toInt ≤ 0 then bulF c P D k else bulF c P D k + P k * D k * D k * D k
def sloF (c : Int64) (P D : Nat → Int64) : Nat → Int64
  | 0 => c
  | k + 1 => if (D k).toInt ≤ 0 then sloF c P D k else sloF c P D k + P k * D k * D k
def dstL (I : IM) (b : Nat) (p : Int32) (k : Nat) : Int64 := (p - I (b + 1) k).toInt64
def bulL (I : IM) (L : LM) (b n : Nat) (p : Int32) (p' : Nat) : Int64 := bulF (-L b 4 * L (b + 5) p') (L (b + 3)) (dstL I b p) n
def heiL (I : IM) (L : LM) (b n : Nat) (p : Int32) (p' p0 p1 : Nat) : Int64 := flL I L b p0 * (I (b + 1) 1 - p).toInt64 + slL I L b p1 * (p - I (b + 1) 0).toInt64 + L (b + 6) 0 * bulL I L b n p p'
def sleL (I : IM) (L : LM) (b n : Nat) (p : Int32) (p' p0 p1 : Nat) : Int64 := slL I L b p1 - flL I L b p0 + 3 * L (b + 6) 0 * sloF (-L b 4 * L (b + 4) p') (L (b + 3)) (dstL I b p) n
/-! carry: weights from a place to one ahead of another, their moments, squares and cubes of distances -/
def inFT (fr to : Int32) (p : Nat) : Bool := decide (¬ nI p < fr ∧ ¬ to ≤ nI p)
def carA (w : Nat → Int32) (fr to : Int32) : Nat → Int64
  | 0 => 0
  | p + 1 => if inFT fr to p = true then carA w fr to p + (w p).toInt64 else carA w fr to p
def carM (w : Nat → Int32) (fr to : Int32) : Nat → Int64
  | 0 => 0
  | p + 1 => if inFT fr to p = true then carM w fr to p + (nI p * w p).toInt64 else carM w fr to p
def carO (w : Nat → Int32) (fr to : Int32) : Nat → Int64
  | 0 => 0
  | p + 1 => carO w fr to p + carA w fr to (p + 1)
def carS (w : Nat → Int32) (fr to : Int32) : Nat → Int64
  | 0 => 0
  | p + 1 => carS w fr to p + (2 * carO w fr to p + carA w fr to (p + 1))
def carC (w : Nat → Int32) (fr to : Int32) : Nat → Int64
  | 0 => 0
  | p + 1 => carC w fr to p + (3 * (carS w fr to p + carO w fr to p) + carA w fr to (p + 1))
def carL (L : LM) (b p : Nat) (S C : Nat → Int64) (A M : Int64) : LM := u2 (u2 (u1 (u1 L (b + 4) (fun j => if j < p then S j else L (b + 4) j)) (b + 5) (fun j => if j < p then C j else L (b + 5) j)) b 7 A) b 8 M
theorem carL_7 {L : LM} {b p : Nat} {S C : Nat → Int64} {A M : Int64} : carL L b p S C A M b 7 = A := by
  unfold carL
  rw [u2_n2 (by decide), u2_s]
theorem carL_8 {L : LM} {b p : Nat} {S C : Nat → Int64} {A M : Int64} : carL L b p S C A M b 8 = M := u2_s
theorem carL_s {L : LM} {b p : Nat} {S C : Nat → Int64} {A M A' M' : Int64} : u2 (u2 (u2 (u2 (carL L b p S C A M) (b + 4) p (S p)) (b + 5) p (C p)) b 7 A') b 8 M' = carL L b (p + 1) S C A' M' := by
  funext a k
  unfold carL
  by_cases h1 : a = b
  · subst h1
    by_cases h8 : k = 8
    · subst h8
      simp [u2]
    · by_cases h7 : k = 7
      · subst h7
        simp [u2]
      · simp [u2, u1, h7, h8]
  · rw [u2_n1 h1, u2_n1 h1, u2_n1 h1, u2_n1 h1]
    by_cases h5 : a = b + 5
    · subst h5
      rw [u1_s]
      by_cases hk : k = p
      · subst hk
        rw [u2_s, if_pos (by omega)]
      · rw [u2_n2 hk, u2_n1 (by omega), u2_n1 (by omega), u2_n1 (by omega), u1_s]
        by_cases q : k < p
        · rw [if_pos q, if_pos (by omega)]
        · rw [if_neg q, if_neg (by omega)]
    · rw [u2_n1 h5, u1_n h5]
      by_cases h4 : a = b + 4
      · subst h4
        rw [u1_s]
        by_cases hk : k = p
        · subst hk
          rw [u2_s, if_pos (by omega)]
        · rw [u2_n2 hk, u2_n1 (by omega), u2_n1 (by omega), u1_n (by omega), u1_s]
          by_cases q : k < p
          · rw [if_pos q, if_pos (by omega)]
          · rw [if_neg q, if_neg (by omega)]
      · rw [u2_n1 h4, u2_n1 h1, u2_n1 h1, u1_n h5, u1_n h4, u1_n h4]
theorem carL_t {L : LM} {b p : Nat} {S C : Nat → Int64} {A M : Int64} : u2 (u2 (carL L b p S C A M) (b + 4) p (S p)) (b + 5) p (C p) = carL L b (p + 1) S C A M := by
  rw [← carL_s (A' := A) (M' := M)]
  funext a k
  by_cases h8 : a = b ∧ k = 8
  · obtain ⟨rfl, rfl⟩ := h8
    rw [u2_s, u2_n1 (by omega), u2_n1 (by omega), carL_8]
  · by_cases h7 : a = b ∧ k = 7
    · obtain ⟨rfl, rfl⟩ := h7
      refine Eq.trans (b := A) ?_ ?_
      · rw [u2_n1 (by omega), u2_n1 (by omega), carL_7]
      · rw [u2_n2 (show 7 ≠ 8 by decide), u2_s]
    · have q1 : ∀ (g : LM) (x : Int64), u2 g b 8 x a k = g a k := fun g x => by unfold u2; rw [if_neg h8]
      have q2 : ∀ (g : LM) (x : Int64), u2 g b 7 x a k = g a k := fun g x => by unfold u2; rw [if_neg h7]
      rw [q1, q2]
theorem carL_0 {L : LM} {b : Nat} {S C : Nat → Int64} {A M : Int64} : u2 (u2 L b 7 A) b 8 M = carL L b 0 S C A M := by
  unfold carL
  have e1 : u1 L (b + 4) (fun j => if j < 0 then S j else L (b + 4) j) = L := (u1_noneF (fun _ => rfl)).symm
  have e2 : u1 L (b + 5) (fun j => if j < 0 then C j else L (b + 5) j) = L := (u1_noneF (fun _ => rfl)).symm
  rw [e1, e2]
/-- spans, their product -/
def spnL (I : IM) (b k : Nat) : Int64 := (I (b + 1) (k + 1) - I (b + 1) k).toInt64
def proL (f : Nat → Int64) : Nat → Int64
  | 0 => 1
  | k + 1 => proL f k * f k
def lakL (I : IM) (L : LM) (b : Nat) (s0 : Int64) (pl : Nat → Nat) (k : Nat) : Int64 := s0 * (6 * L b 5 * (I (b + 2) k).toInt64 + L (b + 5) (pl k)) - fpL I L b * cubL (I (b + 1) k - I (b + 1) 0).toInt64 - spL I L b * cubL (I (b + 1) k - I (b + 1) 1).toInt64
def mesL (I : IM) (L : LM) (b n : Nat) (pl : Nat → Nat) (k : Nat) : LM := u1 (u2 (u1 L (b + 6) (fun j => if j < n - 1 then spnL I b j else L (b + 6) j)) b 6 (proL (spnL I b) (n - 1))) (b + 7) (fun j => if j < k then lakL I L b (spnL I b 0) pl j else L (b + 7) j)
def mesL0 (I : IM) (L : LM) (b k : Nat) : LM := u2 (u1 L (b + 6) (fun j => if j < k then spnL I b j else L (b + 6) j)) b 6 (proL (spnL I b) k)
theorem mesL0_s {I : IM} {L : LM} {b k : Nat} : u2 (u2 (mesL0 I L b k) (b + 6) k (spnL I b k)) b 6 (proL (spnL I b) k * spnL I b k) = mesL0 I L b (k + 1) := by
  unfold mesL0
  funext a j
  by_cases h : a = b ∧ j = 6
  · obtain ⟨rfl, rfl⟩ := h
    rw [u2_s, u2_s]
    rfl
  · have q : ∀ (g : LM) (x : Int64), u2 g b 6 x a j = g a j := fun g x => by unfold u2; rw [if_neg h]
    rw [q, q]
    by_cases h6 : a = b + 6
    · subst h6
      rw [u1_s]
      by_cases hk : j = k
      · subst hk
        rw [u2_s, if_pos (by omega)]
      · rw [u2_n2 hk, u2_n1 (by omega), u1_s]
        by_cases q : j < k
        · rw [if_pos q, if_pos (by omega)]
        · rw [if_neg q, if_neg (by omega)]
    · rw [u2_n1 h6, q, u1_n h6, u1_n h6]
theorem mesL0_0 {I : IM} {L : LM} {b : Nat} : u2 L b 6 1 = mesL0 I L b 0 := by
  unfold mesL0
  rw [← u1_noneF (F := spnL I b) (fun _ => rfl)]
  rfl
theorem mesL0_6 {I : IM} {L : LM} {b k : Nat} : mesL0 I L b k b 6 = proL (spnL I b) k := u2_s
theorem mesL0_r {I : IM} {L : LM} {b k j : Nat} (h : j < k) : mesL0 I L b k (b + 6) j = spnL I b j := by
  unfold mesL0
  rw [u2_n1 (by omega), u1_s, if_pos h]
theorem mesL0_o {I : IM} {L : LM} {b k a j : Nat} (h1 : a ≠ b + 6) (h2 : a ≠ b ∨ j ≠ 6) : mesL0 I L b k a j = L a j := by
  unfold mesL0
  rcases h2 with h2 | h2
  · rw [u2_n1 h2, u1_n h1]
  · rw [u2_n2 h2, u1_n h1]
theorem k_lt1 {v c : Int32} {i n : Nat} (hv : v = nI i) (hc : c = nI n) (hi : i < 2 ^ 30) (hn : n < 2 ^ 31) (h : ¬ c ≤ v + 1) : i + 1 < n := k_lt (i := i + 1) (by rw [hv]; exact nI_1 i) hc (by omega) hn h
theorem k_ge1 {v c : Int32} {i n : Nat} (hv : v = nI i) (hc : c = nI n) (hi : i < 2 ^ 30) (hn : n < 2 ^ 31) (h : c ≤ v + 1) : n ≤ i + 1 := k_ge (i := i + 1) (by rw [hv]; exact nI_1 i) hc (by omega) hn h
theorem k_ix1 {v : Int32} {i N : Nat} (hv : v = nI i) (hi : i + 1 < N) (hN : N < 2 ^ 30) : px_ix (v + 1) N (i + 1) := k_ix (by rw [hv]; exact nI_1 i) hi (by omega)
theorem k_ixm {v : Int32} {i N : Nat} (hv : v = nI i) (h0 : 0 < i) (hi : i - 1 < N) (hN : N < 2 ^ 31) : px_ix (v - 1) N (i - 1) := by
  rw [k_dn1 hv h0]
  exact px_ix_nI hi hN
theorem mesL_0 {I : IM} {L : LM} {b n : Nat} {pl : Nat → Nat} (h : 0 < n) : mesL0 I L b (n - 1) = mesL I L b n pl 0 := by
  unfold mesL
  show mesL0 I L b (n - 1) = u1 (mesL0 I L b (n - 1)) (b + 7) _
  exact u1_noneF (F := lakL I L b (spnL I b 0) pl) (fun j => mesL0_o (by omega) (Or.inl (by omega)))
theorem mesL_r {I : IM} {L : LM} {b n k j : Nat} {pl : Nat → Nat} (h : j < n - 1) : mesL I L b n pl k (b + 6) j = spnL I b j := by
  unfold mesL
  rw [u1_n (by omega)]
  exact mesL0_r h
theorem mesL_o {I : IM} {L : LM} {b n k a j : Nat} {pl : Nat → Nat} (h1 : a ≠ b + 6) (h3 : a ≠ b + 7) (h2 : a ≠ b ∨ j ≠ 6) : mesL I L b n pl k a j = L a j := by
  unfold mesL
  rw [u1_n h3]
  exact mesL0_o (I := I) (k := n - 1) h1 h2
/-! determinants of what lies ahead of and behind a support -/
def ahdF (sp : Nat → Int64) : Nat → Int64
  | 0 => 1
  | 1 => 2 * (sp 0 + sp 1) * 1
  | k + 2 => 2 * (sp (k + 1) + sp (k + 2)) * ahdF sp (k + 1) - sp (k + 1) * sp (k + 1) * ahdF sp k
/-- behind, counted from the end: of last + 1 - i -/
def bhdF (sp : Nat → Int64) (last : Nat) : Nat → Int64
  | 0 => 1
  | 1 => 2 * (sp (last - 1) + sp last) * 1
  | i + 2 => 2 * (sp (last - 1 - (i + 1)) + sp (last - (i + 1))) * bhdF sp last (i + 1) - sp (last - (i + 1)) * sp (last - (i + 1)) * bhdF sp last i
theorem k_ixm2 {v : Int32} {i N : Nat} (hv : v = nI i) (h0 : 2 ≤ i) (hi : i - 2 < N) (hN : N < 2 ^ 31) : px_ix (v - 2) N (i - 2) := by
  have e : v - 2 = nI (i - 2) := by
    rw [hv]
    exact pk_sub (b := 2) h0
  rw [e]
  exact px_ix_nI hi hN
theorem k_ix2 {v : Int32} {i N : Nat} (hv : v = nI i) (hi : i + 2 < N) (hN : N < 2 ^ 31) : px_ix (v + 2) N (i + 2) := by
  have e : v + 2 = nI (i + 2) := by
    rw [hv]
    exact nI_add i 2
  rw [e]
  exact px_ix_nI hi hN
theorem u1_stepD {α : Type} {I : Nat → Nat → α} {c a m : Nat} {F G : Nat → α} (h1 : 1 ≤ a) (h2 : a ≤ m) : u2 (u1 I c (fun j => if a < j ∧ j ≤ m then F j else G j)) c a (F a) = u1 I c (fun j => if a - 1 < j ∧ j ≤ m then F j else G j) := by
  funext x k
  by_cases e : x = c
  · subst e
    by_cases e2 : k = a
    · subst e2
      have : k - 1 < k ∧ k ≤ m := by omega
      simp [u1, u2, this]
    · have : (a - 1 < k ∧ k ≤ m) = (a < k ∧ k ≤ m) := by
        apply propext
        omega
      simp only [u1, u2, e2, this, and_false, if_false, if_true]
  · simp [u1, u2, e]
theorem u1_one {α : Type} {I : Nat → Nat → α} {c m : Nat} {F : Nat → α} {y : α} (h1 : 1 ≤ m) (hy : y = F m) : u2 I c m y = u1 I c (fun j => if m - 1 < j ∧ j ≤ m then F j else I c j) := by
  subst hy
  funext x k
  by_cases e : x = c
  · subst e
    by_cases e2 : k = m
    · subst e2
      have : k - 1 < k ∧ k ≤ k := by omega
      simp [u1, u2, this]
    · have : ¬ (m - 1 < k ∧ k ≤ m) := by omega
      simp only [u1, u2, e2, this, and_false, if_false, if_true]
  · simp [u1, u2, e]
def detL (L : LM) (b n : Nat) (sp : Nat → Int64) : LM := u1 (u1 L (b + 10) (fun j => if j < n - 1 then ahdF sp j else L (b + 10) j)) (b + 11) (fun j => if min 1 (n - 2) < j ∧ j ≤ n - 1 then bhdF sp (n - 2) (n - 1 - j) else L (b + 11) j)
theorem u1_first {L : LM} {c : Nat} {F : Nat → Int64} (h : 1 = F 0) : u2 L c 0 1 = u1 L c (fun j => if j < 1 then F j else L c j) := by
  rw [h]
  funext x k
  by_cases e : x = c
  · subst e
    by_cases e2 : k = 0
    · subst e2
      simp [u1, u2]
    · have : ¬ k < 1 := by omega
      simp [u1, u2, e2, this]
  · simp [u1, u2, e]
theorem u1_last {L : LM} {b n : Nat} {sp : Nat → Int64} (h : 2 ≤ n) : u2 (u1 L (b + 10) (fun j => if j < n - 1 then ahdF sp j else L (b + 10) j)) (b + 11) (n - 1) 1 = u1 (u1 L (b + 10) (fun j => if j < n - 1 then ahdF sp j else L (b + 10) j)) (b + 11) (fun j => if n - 2 < j ∧ j ≤ n - 1 then bhdF sp (n - 2) (n - 1 - j) else L (b + 11) j) := by
  refine (u1_one (F := fun j => bhdF sp (n - 2) (n - 1 - j)) (by omega) ?_).trans ?_
  · show 1 = bhdF sp (n - 2) (n - 1 - (n - 1))
    rw [Nat.sub_self]
    rfl
  · rw [show n - 1 - 1 = n - 2 by omega]
    congr 1
    funext j
    rw [u1_n (by omega)]
theorem bhdF_1 {sp : Nat → Int64} {n a : Nat} (h1 : 2 ≤ a) (h : a = n - 2) : 2 * (sp (a - 1) + sp a) * bhdF sp (n - 2) (n - 1 - (a + 1)) = bhdF sp (n - 2) (n - 1 - a) := by
  have e0 : n - 1 - (a + 1) = 0 := by omega
  have e1 : n - 1 - a = 1 := by omega
  rw [e0, e1, ← h]
  rfl
theorem bhdF_2 {sp : Nat → Int64} {n a : Nat} (h1 : 2 ≤ a) (h : a < n - 2) : 2 * (sp (a - 1) + sp a) * bhdF sp (n - 2) (n - 1 - (a + 1)) - sp a * sp a * bhdF sp (n - 2) (n - 1 - (a + 2)) = bhdF sp (n - 2) (n - 1 - a) := by
  obtain ⟨i, rfl⟩ : ∃ i, n = a + i + 3 := ⟨n - a - 3, by omega⟩
  have e2 : a + i + 3 - 1 - a = i + 2 := by omega
  have e1 : a + i + 3 - 1 - (a + 1) = i + 1 := by omega
  have e0 : a + i + 3 - 1 - (a + 2) = i := by omega
  rw [e2, e1, e0]
  show _ = 2 * (sp (a + i + 3 - 2 - 1 - (i + 1)) + sp (a + i + 3 - 2 - (i + 1))) * bhdF sp (a + i + 3 - 2) (i + 1) - sp (a + i + 3 - 2 - (i + 1)) * sp (a + i + 3 - 2 - (i + 1)) * bhdF sp (a + i + 3 - 2) i
  have e3 : a + i + 3 - 2 - 1 - (i + 1) = a - 1 := by omega
  have e4 : a + i + 3 - 2 - (i + 1) = a := by omega
  rw [e3, e4]
/-- two rows of longs anew -/
def r2 (L : LM) (c1 : Nat) (G1 : Nat → Int64) (c2 : Nat) (G2 : Nat → Int64) : LM := fun a k => if a = c1 then G1 k else if a = c2 then G2 k else L a k
theorem r2_1 {L : LM} {c1 c2 k : Nat} {G1 G2 : Nat → Int64} : r2 L c1 G1 c2 G2 c1 k = G1 k := by simp [r2]
theorem r2_2 {L : LM} {c1 c2 k : Nat} {G1 G2 : Nat → Int64} (h : c2 ≠ c1) : r2 L c1 G1 c2 G2 c2 k = G2 k := by simp [r2, h]
theorem r2_o {L : LM} {c1 c2 a k : Nat} {G1 G2 : Nat → Int64} (h1 : a ≠ c1) (h2 : a ≠ c2) : r2 L c1 G1 c2 G2 a k = L a k := by simp [r2, h1, h2]
theorem r2_s1 {L : LM} {c1 c2 k : Nat} {G1 G2 : Nat → Int64} {x : Int64} : u2 (r2 L c1 G1 c2 G2) c1 k x = r2 L c1 (vp_updL G1 k x) c2 G2 := by
  funext a j
  by_cases e : a = c1
  · subst e
    simp [u2, r2, vp_updL]
  · simp [u2, r2, e]
theorem r2_s2 {L : LM} {c1 c2 k : Nat} {G1 G2 : Nat → Int64} {x : Int64} (h : c2 ≠ c1) : u2 (r2 L c1 G1 c2 G2) c2 k x = r2 L c1 G1 c2 (vp_updL G2 k x) := by
  funext a j
  by_cases e : a = c2
  · subst e
    simp [u2, r2, vp_updL, h]
  · simp [u2, r2, e]
theorem r2_0 {L : LM} {c1 c2 : Nat} : L = r2 L c1 (L c1) c2 (L c2) := by
  funext a j
  unfold r2
  split
  · rename_i h; rw [h]
  · split
    · rename_i h; rw [h]
    · rfl
def cutL (x z : Int64) : Int64 := if z = 0 then 0 else x / z
def trnF (W : Int64) (sp lk : Nat → Int64) (a : Nat) : Int64 := cutL W (sp (a - 1)) * (lk (a - 1) - lk a) + cutL W (sp a) * (lk (a + 1) - lk a)
def trnS (W : Int64) (sp lk g : Nat → Int64) : Nat → Nat → Int64
  | 0 => g
  | r + 1 => vp_updL (trnS W sp lk g r) (r + 1) (trnF W sp lk (r + 1))
def bd0 (g : Nat → Int64) : Nat → Nat → Int64
  | 0 => g
  | r + 1 => vp_updL (bd0 g r) (r + 1) 0
def innC (sp ah : Nat → Int64) (a : Nat) : Nat → Int64
  | 0 => ah (a - 1)
  | m + 1 => innC sp ah a m * (-(sp (a + m)))
def stpB (e : Int64) (T : Nat → Int64) (a c : Nat) (g : Nat → Int64) : Nat → Int64 := if a < c then vp_updL (vp_updL g a (g a + e * T c)) c ((vp_updL g a (g a + e * T c)) c + e * T a) else vp_updL g a (g a + e * T c)
def innG (sp ah bh T : Nat → Int64) (a : Nat) (g : Nat → Int64) : Nat → Nat → Int64
  | 0 => g
  | m + 1 => stpB (innC sp ah a m * bh (a + m + 1)) T a (a + m) (innG sp ah bh T a g m)
def outG (sp ah bh T : Nat → Int64) (last : Nat) (g : Nat → Int64) : Nat → Nat → Int64
  | 0 => g
  | r + 1 => innG sp ah bh T (r + 1) (outG sp ah bh T last g r) (last - r)
/-- findPushes -/
def pz0 (g : Nat → Int64) : Nat → Nat → Int64
  | 0 => g
  | r + 1 => vp_updL (pz0 g r) (r + 2) 0
def stpP (l r : Int64) (a : Nat) (g : Nat → Int64) : Nat → Int64 := vp_updL (vp_updL (vp_updL g (a - 1) (g (a - 1) + l)) a ((vp_updL g (a - 1) (g (a - 1) + l)) a - (l + r))) (a + 1) ((vp_updL (vp_updL g (a - 1) (g (a - 1) + l)) a ((vp_updL g (a - 1) (g (a - 1) + l)) a - (l + r))) (a + 1) + r)
def pFin (W : Int64) (sp bd : Nat → Int64) (g : Nat → Int64) : Nat → Nat → Int64
  | 0 => g
  | r + 1 => stpP (cutL W (sp r) * bd (r + 1)) (cutL W (sp (r + 1)) * bd (r + 1)) (r + 1) (pFin W sp bd g r)
theorem u1_up {α : Type} {L : Nat → Nat → α} {c k : Nat} {g : Nat → α} {x : α} : u2 (u1 L c g) c k x = u1 L c (fun j => if j = k then x else g j) := by
  funext a j
  by_cases e : a = c
  · subst e
    simp [u1, u2]
  · simp [u1, u2, e]
theorem u1_self {α : Type} {L : Nat → Nat → α} {c : Nat} : L = u1 L c (L c) := by
  funext a j
  unfold u1
  split
  · rename_i h; rw [h]
  · rfl
def bndL (L : LM) (b n : Nat) (sp : Nat → Int64) : LM := r2 L (b + 8) (trnS (L b 6) sp (L (b + 7)) (L (b + 8)) (n - 2)) (b + 9) (outG sp (L (b + 10)) (L (b + 11)) (trnS (L b 6) sp (L (b + 7)) (L (b + 8)) (n - 2)) (n - 2) (bd0 (L (b + 9)) (n - 2)) (n - 2))
def pshL (I : IM) (L : LM) (b n : Nat) (sp : Nat → Int64) : LM := u1 (u2 L b 4 ((L (b + 10) (n - 2) * L b 6 * L b 6) * sp 0)) (b + 3) (pFin (L b 6) sp (L (b + 9)) (vp_updL (vp_updL (pz0 (L (b + 3)) (n - 2)) 0 ((L (b + 10) (n - 2) * L b 6 * L b 6) * fpL I L b)) 1 ((L (b + 10) (n - 2) * L b 6 * L b 6) * spL I L b)) (n - 2))
def solL (I : IM) (L : LM) (b n : Nat) (pl : Nat → Nat) : LM := if 2 ≤ n then pshL I (bndL (detL (mesL I L b n pl n) b n (spnL I b)) b n (spnL I b)) b n (spnL I b) else L
theorem detL_o {L : LM} {b n a j : Nat} {sp : Nat → Int64} (h1 : a ≠ b + 10) (h2 : a ≠ b + 11) : detL L b n sp a j = L a j := by
  unfold detL
  rw [u1_n h2, u1_n h1]
theorem bndL_o {L : LM} {b n a j : Nat} {sp : Nat → Int64} (h1 : a ≠ b + 8) (h2 : a ≠ b + 9) : bndL L b n sp a j = L a j := r2_o h1 h2
theorem solL_o {I : IM} {L : LM} {b n a j : Nat} {pl : Nat → Nat} (h0 : a ≠ b ∨ (j ≠ 4 ∧ j ≠ 6)) (h1 : a < b + 3 ∨ (b + 3 < a ∧ a < b + 6) ∨ b + 11 < a) : solL I L b n pl a j = L a j := by
  unfold solL
  split
  · unfold pshL
    rw [u1_n (by omega)]
    have e : ∀ (g : LM) (x : Int64), u2 g b 4 x a j = g a j := fun g x => by
      unfold u2
      rw [if_neg (by omega)]
    rw [e, bndL_o (by omega) (by omega), detL_o (by omega) (by omega), mesL_o (by omega) (by omega) (by omega)]
  · rfl
/-- the facts of a Rest at cell r -/
def RestF (sh : Sh) (R : RM) (r : Nat) : Prop := sh[r]? = some (.inl 5) ∧ R r 0 = some (r + 1) ∧ BeamF sh R (r + 1) ∧ sh[r + 13]? = some (.inr (.int, 7)) ∧ sh[r + 14]? = some (.inr (.int, 7)) ∧ sh[r + 15]? = some (.inr (.int, 7)) ∧ R r 2 = some (r + 13) ∧ R r 3 = some (r + 14) ∧ R r 4 = some (r + 15)
/-! a set of bearings laid on a beam -/
def ly (I : IM) (r : Nat) (P S T : Nat → Int32) (m : Int32) : IM := fun a k => if a = r + 2 then P k else if a = r + 3 then S k else if a = r + 15 then T k else if a = r + 1 ∧ k = 0 then m else I a k
theorem ly_15 {I : IM} {r k : Nat} {P S T : Nat → Int32} {m : Int32} : ly I r P S T m (r + 15) k = T k := by simp [ly]
theorem ly_2 {I : IM} {r k : Nat} {P S T : Nat → Int32} {m : Int32} : ly I r P S T m (r + 2) k = P k := by simp [ly]
theorem ly_3 {I : IM} {r k : Nat} {P S T : Nat → Int32} {m : Int32} : ly I r P S T m (r + 3) k = S k := by simp [ly]
theorem ly_c {I : IM} {r : Nat} {P S T : Nat → Int32} {m : Int32} : ly I r P S T m (r + 1) 0 = m := by simp [ly]
theorem ly_o {I : IM} {r a k : Nat} {P S T : Nat → Int32} {m : Int32} (h1 : a ≠ r + 1) (h2 : a ≠ r + 2) (h3 : a ≠ r + 3) (h4 : a ≠ r + 15) : ly I r P S T m a k = I a k := by simp [ly, h1, h2, h3, h4]
theorem ly_s15 {I : IM} {r k : Nat} {P S T : Nat → Int32} {m x : Int32} : u2 (ly I r P S T m) (r + 15) k x = ly I r P S (upd T k x) m := by
  funext a j
  by_cases e : a = r + 15
  · subst e
    simp [u2, ly, upd]
  · simp [u2, ly, e]
theorem ly_add {I : IM} {r k : Nat} {P S T : Nat → Int32} {m x p v : Int32} : u2 (u2 (u2 (ly I r P S T m) (r + 2) k p) (r + 3) k v) (r + 1) 0 x = ly I r (upd P k p) (upd S k v) T x := by
  funext a j
  by_cases h1 : a = r + 1
  · subst h1
    by_cases hj : j = 0
    · subst hj
      simp [u2, ly]
    · simp [u2, ly, hj]
  · rw [u2_n1 h1]
    by_cases h3 : a = r + 3
    · subst h3
      simp [u2, ly, upd]
    · rw [u2_n1 h3]
      by_cases h2 : a = r + 2
      · subst h2
        simp [u2, ly, upd]
      · simp [u2, ly, h1, h2, h3]
theorem ly_c0 {I : IM} {r : Nat} : u2 I (r + 1) 0 0 = ly I r (I (r + 2)) (I (r + 3)) (I (r + 15)) 0 := by
  funext a j
  unfold ly u2
  by_cases h2 : a = r + 2
  · subst h2
    simp
  · by_cases h3 : a = r + 3
    · subst h3
      simp
    · by_cases h15 : a = r + 15
      · subst h15
        simp
      · simp [h2, h3, h15]
/-- is the bearing b of n in the set -/
def selC (c : Int32) (n b : Nat) : Bool := decide ((c >>> (nI (n - 1 - b) &&& 31)) &&& 1 = 1)
def cntS (s : Nat → Bool) : Nat → Nat
  | 0 => 0
  | b + 1 => if s b = true then cntS s b + 1 else cntS s b
theorem cntS_le {s : Nat → Bool} : ∀ b, cntS s b ≤ b
  | 0 => Nat.le_refl _
  | b + 1 => by
    have := cntS_le (s := s) b
    simp only [cntS]
    split <;> omega
def lyP (s : Nat → Bool) (f g : Nat → Int32) : Nat → Nat → Int32
  | 0 => g
  | b + 1 => if s b = true then upd (lyP s f g b) (cntS s b) (f b) else lyP s f g b
def lyN (s : Nat → Bool) (f : Nat → Nat) : Nat → Nat → Nat
  | 0 => fun _ => 0
  | b + 1 => if s b = true then (fun k => if k = cntS s b then f b else lyN s f b k) else lyN s f b
def lyT (s : Nat → Bool) (g : Nat → Int32) : Nat → Nat → Int32
  | 0 => g
  | b + 1 => if s b = true then upd (upd (lyT s g b) b (-1)) b (nI (cntS s b)) else upd (lyT s g b) b (-1)
theorem lyP_ix {s : Nat → Bool} {f g : Nat → Int32} {q : Nat → Nat} {N : Nat} : ∀ n, (∀ b, b < n → px_ix (f b) N (q b)) → ∀ k, k < cntS s n → px_ix (lyP s f g n k) N (lyN s q n k)
  | 0, _, k, hk => absurd hk (Nat.not_lt_zero _)
  | n + 1, h, k, hk => by
    have ih := lyP_ix (s := s) (f := f) (g := g) (q := q) (N := N) n (fun b hb => h b (by omega))
    by_cases e : s n = true
    · simp only [lyP, lyN, if_pos e]
      simp only [cntS, if_pos e] at hk
      by_cases e2 : k = cntS s n
      · subst e2
        simp only [upd, if_true]
        exact h n (by omega)
      · simp only [upd, if_neg e2]
        exact ih k (by omega)
    · simp only [lyP, lyN, if_neg e]
      simp only [cntS, if_neg e] at hk
      exact ih k hk
def layI (I : IM) (r : Nat) (c : Int32) (n b : Nat) : IM := ly I r (lyP (selC c n) (I (r + 13)) (I (r + 2)) b) (lyP (selC c n) (I (r + 14)) (I (r + 3)) b) (lyT (selC c n) (I (r + 15)) b) (nI (cntS (selC c n) b))
theorem k_sub1 {n b : Nat} (h : b < n) : nI n - 1 - nI b = nI (n - 1 - b) := by
  rw [show nI n - 1 = nI (n - 1) from k_dn1 rfl (by omega)]
  exact pk_sub (by omega)
/-- the margin of a bearing -/
def mrgL (I : IM) (L : LM) (r m k : Nat) (q : Nat) (p0 p1 : Nat) : Int64 := if 0 ≤ I (r + 15) k then L (r + 1 + 3) (I (r + 15) k).toNatClampNeg else heiL I L (r + 1) m (I (r + 13) k) q p0 p1 - (I (r + 14) k).toInt64 * hbL L (r + 1)
/-! Euclid -/
def absL (z : Int64) : Int64 := if 0 < z then z else -z
def euc : Nat → Int64 → Int64 → Int64
  | 0, x, _ => x
  | n + 1, x, y => if y = 0 then x else euc n y (x - x / y * y)
theorem remL_toInt (a b : Int64) (h : ¬ b = 0) : (a - a / b * b).toInt = a.toInt.tmod b.toInt := by
  have hb : b.toInt ≠ 0 := fun e => h (Int64.toInt_inj.mp e)
  have h1 := Int64.le_toInt b
  have h2 := Int64.toInt_lt b
  have e : a.toInt - a.toInt.tdiv b.toInt * b.toInt = a.toInt.tmod b.toInt := by
    have := Int.tmod_add_tdiv_mul a.toInt b.toInt
    omega
  have e2 : (a.toInt.tmod b.toInt).natAbs < b.toInt.natAbs := by
    rw [Int.natAbs_tmod]
    exact Nat.mod_lt _ (by omega)
  rw [Int64.toInt_sub, Int64.toInt_mul, Int64.toInt_div, Int.bmod_mul_bmod, Int.sub_bmod_bmod, e, Int.bmod_eq_of_le] <;> omega
theorem remL_lt (a b : Int64) (h : ¬ b = 0) : (a - a / b * b).toInt.natAbs < b.toInt.natAbs := by
  have hb : b.toInt ≠ 0 := fun e => h (Int64.toInt_inj.mp e)
  rw [remL_toInt a b h, Int.natAbs_tmod]
  exact Nat.mod_lt _ (by omega)
theorem euc_0 {n : Nat} {x y : Int64} (h : y = 0) : euc n x y = x := by
  cases n with
  | zero => rfl
  | succ n => exact if_pos h
theorem euc_more : ∀ (n k : Nat) (x y : Int64), y.toInt.natAbs ≤ n → n ≤ k → euc n x y = euc k x y
  | 0, k, x, y, h, _ => by
    have : y = 0 := Int64.toInt_inj.mp (by show y.toInt = 0; omega)
    rw [euc_0 this, euc_0 this]
  | n + 1, k, x, y, h, hk => by
    by_cases e : y = 0
    · rw [euc_0 e, euc_0 e]
    · obtain ⟨j, rfl⟩ : ∃ j, k = j + 1 := ⟨k - 1, by omega⟩
      show (if y = 0 then x else euc n y (x - x / y * y)) = (if y = 0 then x else euc j y (x - x / y * y))
      rw [if_neg e, if_neg e]
      have := remL_lt x y e
      exact euc_more n j y _ (by omega) (by omega)
def gcdL (a b : Int64) : Int64 := euc (absL b).toInt.natAbs (absL a) (absL b)
theorem absL_ge {a : Int64} (h : 0 ≤ a.toInt) : absL a = a := by
  unfold absL
  split
  · rfl
  · rename_i q
    rw [Int64.lt_iff_toInt_lt] at q
    have z : (0 : Int64).toInt = 0 := rfl
    have : a = 0 := Int64.toInt_inj.mp (by omega)
    rw [this]
    rfl
theorem absL_lt {a : Int64} (h : a.toInt < 0) : absL a = -a := by
  unfold absL
  have z : (0 : Int64).toInt = 0 := rfl
  rw [if_neg (by rw [Int64.lt_iff_toInt_lt]; omega)]
theorem euc_step {x y : Int64} (h : ¬ y = 0) : euc y.toInt.natAbs x y = euc (x - x / y * y).toInt.natAbs y (x - x / y * y) := by
  have hb : y.toInt ≠ 0 := fun e => h (Int64.toInt_inj.mp e)
  obtain ⟨j, hj⟩ : ∃ j, y.toInt.natAbs = j + 1 := ⟨y.toInt.natAbs - 1, by omega⟩
  have h2 := remL_lt x y h
  rw [hj]
  show (if y = 0 then x else euc j y (x - x / y * y)) = _
  rw [if_neg h]
  exact (euc_more _ j y _ (Nat.le_refl _) (by omega)).symm
def mkBy (a b : Int64) : Int64 := if b.toInt < 0 then -(gcdL a b) else gcdL a b
def mkL (L : LM) (m : Nat) (a b : Int64) : LM := u2 (u2 L m 17 (a / mkBy a b)) m 18 (b / mkBy a b)
def adN (L : LM) (m : Nat) (a b : Int64) : Int64 := L m 17 * (b / gcdL (L m 18) b) + a * (L m 18 / gcdL (L m 18) b)
def adD (L : LM) (m : Nat) (b : Int64) : Int64 := L m 18 / gcdL (L m 18) b * b
def adL (L : LM) (m : Nat) (a b : Int64) : LM := mkL L m (adN L m a b) (adD L m b)
theorem mkBy_ne {a b : Int64} (h : ¬ gcdL a b = 0) : ¬ mkBy a b = 0 := by
  unfold mkBy
  split
  · intro e
    apply h
    have : -(-(gcdL a b)) = -0 := congrArg (fun z => -z) e
    rwa [Int64.neg_neg, Int64.neg_zero] at this
  · exact h
def cubM (v : Int64) (q : Int32) : Int64 := if 0 < v.toInt then (if q = 0 then v * v * v else 3 * v * v) else 0
/-- Fraction.become, Fraction.takeAway -/
def beL (L : LM) (b : Nat) (x z : Int64) : LM := u2 (u2 L b 0 (cutL x (euc 100 (absL x) (absL z)))) b 1 (cutL z (euc 100 (absL x) (absL z)))
def tkL (L : LM) (b c : Nat) : LM := beL L b (L b 0 * cutL (L c 1) (euc 100 (absL (L b 1)) (absL (L c 1))) - L c 0 * cutL (L b 1) (euc 100 (absL (L b 1)) (absL (L c 1)))) (L b 1 * cutL (L c 1) (euc 100 (absL (L b 1)) (absL (L c 1))))
theorem lz_ge {x : Int64} : 0 ≤ lg_cmp x 0 ↔ 0 ≤ x.toInt := lc_ge
theorem lz_gt {x : Int64} : 0 < lg_cmp x 0 ↔ 0 < x.toInt := lc_gt
theorem lz_le {x : Int64} : lg_cmp x 0 ≤ 0 ↔ x.toInt ≤ 0 := lc_le
theorem lz_lt {x : Int64} : lg_cmp x 0 < 0 ↔ x.toInt < 0 := lc_lt
