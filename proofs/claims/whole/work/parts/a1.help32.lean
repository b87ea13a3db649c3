/-! moves of bearings -/
abbrev mvA (A : LA) (mv : Nat → Int) : LA := (aN A, aQ A, (fun k => aO A k + mv k), aW A, aF A, aR A)
def okM (A : LA) (mv : Nat → Int) : Prop := ∀ k, k < aN A → -50 ≤ aO A k + mv k ∧ aO A k + mv k ≤ 50
theorem okA_mv {A : LA} {mv : Nat → Int} (a : okA A) (h : okM A mv) : okA (mvA A mv) := ⟨a.1, a.2.1, h, a.2.2.2⟩
/-- heights, the first i bearings moved -/
def hgK (A : LA) (mv : Nat → Int) (st i k : Nat) : Rat := hgt A st k + (if k < i then (mv k : Rat) else 0)
theorem hgK_0 {A : LA} {mv : Nat → Int} {st : Nat} : hgK A mv st 0 = hgt A st := by
  funext k
  unfold hgK
  rw [if_neg (Nat.not_lt_zero _)]
  grind
theorem hgK_s {A : LA} {mv : Nat → Int} {st i : Nat} : (fun k => hgK A mv st i k + (mv i : Rat) * oneH i k) = hgK A mv st (i + 1) := by
  funext k
  unfold hgK oneH
  by_cases c : k = i
  · subst c
    rw [if_neg (Nat.lt_irrefl _), if_pos rfl, if_pos (Nat.lt_succ_self _)]
    grind
  · rw [if_neg c]
    by_cases d : k < i
    · rw [if_pos d, if_pos (by omega)]
      grind
    · rw [if_neg d, if_neg (by omega)]
      grind
theorem hgK_n {A : LA} {mv : Nat → Int} {st k : Nat} (h : k < aN A) : hgK A mv st (aN A) k = hgt (mvA A mv) st k := by
  unfold hgK hgt hgI
  rw [if_pos h, ← Rat.intCast_add]
  congr 1
  show aO A k + aR A st (aQ A k) + mv k = aO A k + mv k + aR A st (aQ A k)
  omega
theorem mg_hh {s : Nat → Bool} {q : Nat → Nat} {hh h2 w : Nat → Rat} {F : Rat} {n b : Nat} (h : ∀ k, k < n → hh k = h2 k) (hb : b < n) : mgQ s q hh w F n b = mgQ s q h2 w F n b := by
  unfold mgQ ldS tzS
  rw [lyQ_f n h, h b hb]
theorem mg_step {A : LA} {mv : Nat → Int} {st i b n : Nat} {s : Nat → Bool} {q : Nat → Nat} {w : Nat → Rat} {F : Rat} : mgQ s q (hgK A mv st i) w F n b + (mv i : Rat) * mgQ s q (oneH i) zerW F n b = mgQ s q (hgK A mv st (i + 1)) w F n b := by
  rw [← mg_lin, hgK_s]
  have : (fun p => w p + (mv i : Rat) * zerW p) = w := by
    funext p
    show w p + (mv i : Rat) * 0 = w p
    grind
  rw [this]
theorem bit_at : ∀ n, n ≤ 4 → ∀ (s : Nat → Bool) b, b < n → ((bitF s n >>> (nI b &&& 31)) &&& 1 = 1 ↔ s b = true) := by
  have h : ∀ n, n < 5 → ∀ c, c < 16 → ∀ b, b < 4 → b < n → decide ((bitF (fun k => decide (c / 2 ^ k % 2 = 1)) n >>> (nI b &&& 31)) &&& 1 = 1) = decide (c / 2 ^ b % 2 = 1) := by decide +kernel
  intro n hn s b hb
  have hs : ∃ c, c < 16 ∧ ∀ k, k < 4 → s k = decide (c / 2 ^ k % 2 = 1) := by
    refine ⟨(if s 0 = true then 1 else 0) + (if s 1 = true then 2 else 0) + (if s 2 = true then 4 else 0) + (if s 3 = true then 8 else 0), ?_, ?_⟩
    · split <;> split <;> split <;> split <;> decide
    · intro k hk
      match k, hk with
      | 0, _ => cases s 0 <;> cases s 1 <;> cases s 2 <;> cases s 3 <;> rfl
      | 1, _ => cases s 0 <;> cases s 1 <;> cases s 2 <;> cases s 3 <;> rfl
      | 2, _ => cases s 0 <;> cases s 1 <;> cases s 2 <;> cases s 3 <;> rfl
      | 3, _ => cases s 0 <;> cases s 1 <;> cases s 2 <;> cases s 3 <;> rfl
  obtain ⟨c, hc, e⟩ := hs
  have e2 : bitF s n = bitF (fun k => decide (c / 2 ^ k % 2 = 1)) n := bitF_congr n (fun k hk => e k (by omega))
  have := h n (by omega) c hc b (by omega) hb
  rw [e2, e b (by omega)]
  constructor
  · intro q
    rw [decide_eq_true q] at this
    exact this.symm
  · intro q
    rw [q] at this
    exact of_decide_eq_true this
/-- moves by a number -/
def mvZ (n t k : Nat) : Int := ((t / 5 ^ (n - 1 - k) % 5 : Nat) : Int) - 2
theorem mvZ_in {n t k : Nat} : -2 ≤ mvZ n t k ∧ mvZ n t k ≤ 2 := by
  unfold mvZ
  have := Nat.mod_lt (t / 5 ^ (n - 1 - k)) (show 0 < 5 by decide)
  omega
/-- of the last r bearings: how many are moved, how far together -/
def mnyR (n t : Nat) : Nat → Nat
  | 0 => 0
  | r + 1 => mnyR n t r + (if mvZ n t (n - 1 - r) = 0 then 0 else 1)
def smvR (n t : Nat) : Nat → Nat
  | 0 => 0
  | r + 1 => smvR n t r + (mvZ n t (n - 1 - r)).natAbs
theorem mny_le {n t : Nat} : ∀ r, mnyR n t r ≤ r ∧ smvR n t r ≤ 2 * r
  | 0 => ⟨Nat.le_refl _, Nat.le_refl _⟩
  | r + 1 => by
    have h := mny_le (n := n) (t := t) r
    have h2 := mvZ_in (n := n) (t := t) (k := n - 1 - r)
    simp only [mnyR, smvR]
    constructor
    · split <;> omega
    · omega
abbrev mny (n t : Nat) : Nat := mnyR n t n
abbrev smv (n t : Nat) : Nat := smvR n t n
def betT (n : Nat) (o : Option Nat) (t : Nat) : Prop := match o with
  | none => True
  | some d => mny n t < mny n d ∨ (mny n t = mny n d ∧ smv n t < smv n d)
/-- the best of the first numbers -/
noncomputable def plS (A : LA) (lo hi : Int) (g : Nat → Bool) : Nat → Option Nat
  | 0 => none
  | t + 1 => @ite _ (okM A (mvZ (aN A) t) ∧ betT (aN A) (plS A lo hi g t) t ∧ fitP (mvA A (mvZ (aN A) t)) lo hi g 4) (Classical.propDecidable _) (some t) (plS A lo hi g t)
theorem plS_t {A : LA} {lo hi : Int} {g : Nat → Bool} {t : Nat} (h : okM A (mvZ (aN A) t) ∧ betT (aN A) (plS A lo hi g t) t ∧ fitP (mvA A (mvZ (aN A) t)) lo hi g 4) : plS A lo hi g (t + 1) = some t := if_pos h
theorem plS_f {A : LA} {lo hi : Int} {g : Nat → Bool} {t : Nat} (h : ¬ (okM A (mvZ (aN A) t) ∧ betT (aN A) (plS A lo hi g t) t ∧ fitP (mvA A (mvZ (aN A) t)) lo hi g 4)) : plS A lo hi g (t + 1) = plS A lo hi g t := if_neg h
/-- what the planner tells -/
def PlR (I : IM) (n : Nat) (o : Option Nat) : Prop := match o with
  | none => I 61 0 = -4
  | some t => I 61 0 = nI (mny n t) ∧ I 61 5 = nI (smv n t) ∧ ∀ k, k < n → (I 62 k).toInt = mvZ n t k
/-- the planner's facts while it searches -/
def PLc (I : IM) (L : LM) (A : LA) (lo hi : Int) (g : Nat → Bool) : Prop := PSet I (aN A) ∧ PMem I L (aQ A) (aN A) (ordK (aN A)) ∧ (∀ k, k < aN A → PGk L (aQ A) (stf A) (aN A) k (ordK (aN A))) ∧ (∀ st, st < 4 → g st = true → PBs L (aQ A) (hgt A st) (wgt A) (stf A) (aN A) st (ordK (aN A))) ∧ (L 61 3).toInt = lo ∧ (L 61 4).toInt = hi
theorem PLc_fr {I I' : IM} {L L' : LM} {A : LA} {lo hi : Int} {g : Nat → Bool} (h : PLc I L A lo hi g) (f : ∀ a k, (a = 63 ∨ a = 64 ∨ (a = 61 ∧ k = 6)) → I' a k = I a k) (e : ∀ a k, (a = 61 ∨ a = 65 ∨ a = 66 ∨ a = 67) → L' a k = L a k) : PLc I' L' A lo hi g := by
  obtain ⟨⟨h1, h2⟩, h3, h4, h5, h6, h7⟩ := h
  refine ⟨⟨?_, fun j hj => ?_⟩, fun j hj => ?_, fun k hk j hj b hb => ?_, fun st hst hg j hj b hb => ?_, ?_, ?_⟩
  · rw [f 61 6 (by omega)]; exact h1
  · rw [f 63 j (by omega)]; exact h2 j hj
  · rw [f 64 j (by omega), e 65 j (by omega)]; exact h3 j hj
  · rw [e 67 _ (by omega)]; exact h4 k hk j hj b hb
  · rw [e 66 _ (by omega)]; exact h5 st hst hg j hj b hb
  · rw [e 61 3 (by omega)]; exact h6
  · rw [e 61 4 (by omega)]; exact h7
def fr68 (L L' : LM) : Prop := ∀ a k, a ≠ 68 → L' a k = L a k
theorem fr68_0 {L : LM} : fr68 L L := fun _ _ _ => rfl
theorem fr68_t {L L' L'' : LM} (h1 : fr68 L L') (h2 : fr68 L' L'') : fr68 L L'' := fun a k c => (h2 a k c).trans (h1 a k c)
theorem PLc_68 {I : IM} {L L' : LM} {A : LA} {lo hi : Int} {g : Nat → Bool} (h : PLc I L A lo hi g) (f : fr68 L L') : PLc I L' A lo hi g := PLc_fr h (fun _ _ _ => rfl) (fun a k c => f a k (by omega))
/-- margins of a set as it holds -/
def mgsL (L : LM) (A : LA) (mv : Nat → Int) (st j B : Nat) : Prop := ∀ b, b < B → ((L 68 b).toInt : Rat) = mgQ (sN (aN A) j) (aQ A) (hgt (mvA A mv) st) (wgt A) (stf A) (aN A) b
def hldP (sh : Sh) (I : IM) (L : LM) (R : RM) (A : LA) (mv : Nat → Int) (st j : Nat) : PPost := fun ret sh' I' L' R' => sh' = sh ∧ R' = R ∧ I' = I ∧ fr68 L L' ∧ ((ret = some (.int 1) ∧ lieS (sN (aN A) j) (aQ A) (hgt (mvA A mv) st) (wgt A) (stf A) (aN A) ∧ mgsL L' A mv st j (aN A)) ∨ (ret = some (.int 0) ∧ ¬ lieS (sN (aN A) j) (aQ A) (hgt (mvA A mv) st) (wgt A) (stf A) (aN A)))
theorem mg_get {A : LA} {mv : Nat → Int} {st j b : Nat} {x : Int64} (a : okA A) (hm : okM A mv) (h4 : aN A ≤ 4) (hst : st < 4) (hj : j < ordK (aN A)) (hb : b < aN A) (h : RI x (mgQ (sN (aN A) j) (aQ A) (hgK A mv st (aN A)) (wgt A) (stf A) (aN A) b)) : (x.toInt : Rat) = mgQ (sN (aN A) j) (aQ A) (hgt (mvA A mv) st) (wgt A) (stf A) (aN A) b := by
  rw [mg_hh (h2 := hgt (mvA A mv) st) (fun k hk => hgK_n hk) hb] at h
  exact RI_get h (inQ_le (mg_in (okA_S (okA_mv a hm) hst) (sN_2 h4 hj) hb) (by grind))
theorem lie_mv {A : LA} {mv : Nat → Int} {st j : Nat} (a : okA A) (hm : okM A mv) (h4 : aN A ≤ 4) (hst : st < 4) (hj : j < ordK (aN A)) : (∀ b, b < aN A → 0 ≤ mgQ (sN (aN A) j) (aQ A) (hgt (mvA A mv) st) (wgt A) (stf A) (aN A) b) ↔ lieS (sN (aN A) j) (aQ A) (hgt (mvA A mv) st) (wgt A) (stf A) (aN A) := mg_lie (okA_S (okA_mv a hm) hst) (sN_2 h4 hj)
