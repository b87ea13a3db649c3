/-! going through all moves -/
theorem abs_50 {x : Int32} {z : Int} (hx : x.toInt = z) (hz : -1000 ≤ z ∧ z ≤ 1000) : (if 0 ≤ x then x else 0 - x).toInt = (z.natAbs : Int) := by
  have z0 : (0 : Int32).toInt = 0 := rfl
  by_cases c : 0 ≤ x
  · rw [if_pos c, hx]
    rw [Int32.le_iff_toInt_le, hx, z0] at c
    omega
  · rw [if_neg c]
    rw [Int32.le_iff_toInt_le, hx, z0] at c
    rw [Int32.toInt_sub, hx, z0, Int.bmod_eq_of_le (by omega) (by omega)]
    omega
theorem abs_nI {x : Int32} {z : Int} (hx : x.toInt = z) (hz : -1000 ≤ z ∧ z ≤ 1000) : (if 0 ≤ x then x else 0 - x) = nI z.natAbs := to_nI (abs_50 hx hz)
theorem mv_dig {x : Int32} {l : Nat} (hx : x = nI l) (hl : l < 2 ^ 31) : (x - x / 5 * 5 - 2).toInt = ((l % 5 : Nat) : Int) - 2 ∧ x / 5 = nI (l / 5) := by
  subst hx
  have h1 : nI l - nI l / 5 * 5 = nI (l % 5) := pk_rem (d := 5) hl (by decide) (by decide)
  have hm := Nat.mod_lt l (show 0 < 5 by decide)
  refine ⟨?_, pk_div (d := 5) hl (by decide) (by decide)⟩
  rw [h1]
  exact pk_sub_toInt (b := 2) (by omega) (by decide)
theorem div_pow5 {t d : Nat} : t / 5 ^ d / 5 = t / 5 ^ (d + 1) := by
  rw [Nat.div_div_eq_div_mul, Nat.pow_succ]
/-- behind d bearings, the last ones first -/
def tkS (I I2 : IM) (A : LA) (t d : Nat) : Prop := (∀ a k, a ≠ 69 → I2 a k = I a k) ∧ ∀ k, aN A - d ≤ k → k < aN A → (I2 69 k).toInt = mvZ (aN A) t k ∧ -50 ≤ aO A k + mvZ (aN A) t k ∧ aO A k + mvZ (aN A) t k ≤ 50
theorem tk_0 {I : IM} {A : LA} {t : Nat} : tkS I I A t 0 := ⟨fun _ _ _ => rfl, fun k h1 h2 => by omega⟩
theorem tk_s {I I2 : IM} {A : LA} {t d : Nat} {x : Int32} (h : tkS I I2 A t d) (hd : d < aN A) (hx : x.toInt = mvZ (aN A) t (aN A - 1 - d)) (hb : -50 ≤ aO A (aN A - 1 - d) + mvZ (aN A) t (aN A - 1 - d) ∧ aO A (aN A - 1 - d) + mvZ (aN A) t (aN A - 1 - d) ≤ 50) : tkS I (u2 I2 69 (aN A - 1 - d) x) A t (d + 1) := by
  refine ⟨fun a k c => by rw [u2_n1 c]; exact h.1 a k c, fun k h1 h2 => ?_⟩
  by_cases e : k = aN A - 1 - d
  · subst e
    rw [u2_s]
    exact ⟨hx, hb⟩
  · rw [u2_n2 e]
    exact h.2 k (by omega) h2
def tkmP (sh : Sh) (I : IM) (L : LM) (R : RM) (A : LA) (t : Nat) (o : Option Nat) : PPost := fun ret sh' I' L' R' => sh' = sh ∧ R' = R ∧ L' = L ∧ (∀ a k, a ≠ 69 → I' a k = I a k) ∧ ∃ bb : Bool, ret = some (.int (bI bb)) ∧ (bb = true ↔ okM A (mvZ (aN A) t) ∧ betT (aN A) o t) ∧ (bb = true → ∀ k, k < aN A → (I' 69 k).toInt = mvZ (aN A) t k)
theorem tk_ok' {I I2 : IM} {A : LA} {t : Nat} (h : tkS I I2 A t (aN A)) : okM A (mvZ (aN A) t) ∧ ∀ k, k < aN A → (I2 69 k).toInt = mvZ (aN A) t k := ⟨fun k hk => (h.2 k (by omega) hk).2, fun k hk => (h.2 k (by omega) hk).1⟩
theorem PlR_fr {I I' : IM} {n : Nat} {o : Option Nat} (h : PlR I n o) (f : ∀ a k, a = 61 ∨ a = 62 → I' a k = I a k) : PlR I' n o := by
  cases o with
  | none => show I' 61 0 = -4; rw [f 61 0 (Or.inl rfl)]; exact h
  | some t =>
    obtain ⟨h1, h2, h3⟩ := h
    exact ⟨by rw [f 61 0 (Or.inl rfl)]; exact h1, by rw [f 61 5 (Or.inl rfl)]; exact h2, fun k hk => by rw [f 62 k (Or.inr rfl)]; exact h3 k hk⟩
/-- is a number's move better than what is told -/
theorem bet_0 {I : IM} {n t : Nat} {o : Option Nat} (h4 : n ≤ 4) (h : PlR I n o) (c : I 61 0 < 0) : betT n o t := by
  cases o with
  | none => trivial
  | some d =>
    have : mny n d ≤ n ∧ smv n d ≤ 2 * n := mny_le (n := n) (t := d) n
    rw [h.1] at c
    exact absurd c (nI_pos (by omega))
theorem bet_1 {I : IM} {n t : Nat} {o : Option Nat} {m s : Int32} (h4 : n ≤ 4) (h : PlR I n o) (c : ¬ I 61 0 < 0) (hm : m = nI (mny n t)) (hs : s = nI (smv n t)) : (m < I 61 0 → betT n o t) ∧ (¬ m < I 61 0 → ¬ m = I 61 0 → ¬ betT n o t) ∧ (m = I 61 0 → (s < I 61 5 → betT n o t) ∧ (¬ s < I 61 5 → ¬ betT n o t)) := by
  cases o with
  | none =>
    have h : I 61 0 = -4 := h
    rw [h] at c
    exact absurd (by decide) c
  | some d =>
    obtain ⟨h1, h2, _⟩ := h
    have k1 : mny n d ≤ n ∧ smv n d ≤ 2 * n := mny_le (n := n) (t := d) n
    have k2 : mny n t ≤ n ∧ smv n t ≤ 2 * n := mny_le (n := n) (t := t) n
    rw [h1, h2, hm, hs]
    rw [nI_ltI (by omega) (by omega), nI_ltI (by omega) (by omega), nI_eq (by omega) (by omega)]
    unfold betT
    omega
/-- sums from either end -/
def upS (f : Nat → Nat) : Nat → Nat
  | 0 => 0
  | k + 1 => upS f k + f k
theorem up_mny {n t : Nat} : ∀ r, r ≤ n → mnyR n t r + upS (fun k => if mvZ n t k = 0 then 0 else 1) (n - r) = upS (fun k => if mvZ n t k = 0 then 0 else 1) n
  | 0, _ => by simp [mnyR]
  | r + 1, h => by
    have ih := up_mny (n := n) (t := t) r (by omega)
    have e : n - r = n - (r + 1) + 1 := by omega
    rw [e] at ih
    simp only [upS] at ih
    simp only [mnyR]
    rw [show n - 1 - r = n - (r + 1) by omega]
    omega
theorem up_smv {n t : Nat} : ∀ r, r ≤ n → smvR n t r + upS (fun k => (mvZ n t k).natAbs) (n - r) = upS (fun k => (mvZ n t k).natAbs) n
  | 0, _ => by simp [smvR]
  | r + 1, h => by
    have ih := up_smv (n := n) (t := t) r (by omega)
    have e : n - r = n - (r + 1) + 1 := by omega
    rw [e] at ih
    simp only [upS] at ih
    simp only [smvR]
    rw [show n - 1 - r = n - (r + 1) by omega]
    omega
theorem up_all {n t : Nat} : upS (fun k => if mvZ n t k = 0 then 0 else 1) n = mny n t ∧ upS (fun k => (mvZ n t k).natAbs) n = smv n t := by
  have h1 := up_mny (n := n) (t := t) n (Nat.le_refl _)
  have h2 := up_smv (n := n) (t := t) n (Nat.le_refl _)
  rw [Nat.sub_self] at h1 h2
  simp only [upS] at h1 h2
  exact ⟨by show _ = mnyR n t n; omega, by show _ = smvR n t n; omega⟩
def kpS (I I2 : IM) (n t k : Nat) : Prop := (∀ a i, a ≠ 62 → (a ≠ 61 ∨ (i ≠ 0 ∧ i ≠ 5)) → I2 a i = I a i) ∧ I2 61 0 = nI (upS (fun k => if mvZ n t k = 0 then 0 else 1) k) ∧ I2 61 5 = nI (upS (fun k => (mvZ n t k).natAbs) k) ∧ ∀ i, i < k → (I2 62 i).toInt = mvZ n t i
theorem kp_0 {I : IM} {n t : Nat} : kpS I (u2 (u2 I 61 0 0) 61 5 0) n t 0 := by
  refine ⟨fun a i c d => ?_, ?_, u2_s, fun i hi => absurd hi (Nat.not_lt_zero _)⟩
  · unfold u2
    rw [if_neg (by omega), if_neg (by omega)]
  · rw [u2_n2 (by decide), u2_s]
    rfl
theorem kp_s {I I2 : IM} {n t k : Nat} {x c s : Int32} (h : kpS I I2 n t k) (hx : x.toInt = mvZ n t k) (hc : c = nI (if mvZ n t k = 0 then 0 else 1)) (hs : s = nI (mvZ n t k).natAbs) : kpS I (u2 (u2 (u2 I2 62 k x) 61 0 (I2 61 0 + c)) 61 5 (I2 61 5 + s)) n t (k + 1) := by
  obtain ⟨h1, h2, h3, h4⟩ := h
  refine ⟨fun a i d e => ?_, ?_, ?_, fun i hi => ?_⟩
  · unfold u2
    rw [if_neg (by omega), if_neg (by omega), if_neg (by omega)]
    exact h1 a i d e
  · rw [u2_n2 (by decide), u2_s, h2, hc, nI_add]
    rfl
  · rw [u2_s, h3, hs, nI_add]
    rfl
  · rw [u2_n1 (by decide), u2_n1 (by decide)]
    by_cases e : i = k
    · rw [e, u2_s]
      exact hx
    · rw [u2_n2 e]
      exact h4 i (by omega)
theorem kp_end {I I2 : IM} {n t : Nat} (h : kpS I I2 n t n) : PlR I2 n (some t) := ⟨by rw [h.2.1, up_all.1], by rw [h.2.2.1, up_all.2], h.2.2.2⟩
theorem five_pow {n : Nat} (h : n ≤ 4) : 5 ^ n ≤ 625 := by
  have : 5 ^ n ≤ 5 ^ 4 := Nat.pow_le_pow_right (by decide) h
  omega
def seaP (sh : Sh) (I : IM) (L : LM) (R : RM) (A : LA) (lo hi : Int) (v : Int32) : PPost := fun ret sh' I' L' R' => ret = none ∧ sh' = sh ∧ R' = R ∧ fr68 L L' ∧ (∀ a k, a ≠ 62 → a ≠ 69 → (a ≠ 61 ∨ (k ≠ 0 ∧ k ≠ 5)) → I' a k = I a k) ∧ PlR I' (aN A) (plS A lo hi (selM v) (5 ^ aN A))
theorem sub_two {x : Int32} : x + 1 - 1 + -1 = x - 1 := by
  have e : x + 1 - 1 = x := by
    rw [Int32.sub_eq_add_neg, Int32.add_assoc]
    exact Int32.add_zero x
  rw [e, ← Int32.sub_eq_add_neg]
