/-! NUMBERS, 11: heights and slopes; they fit into a long -/
abbrev SP (pl : Nat → Nat) (h w : Nat → Rat) (F : Rat) (N : Nat) (y : Rat) : Rat := SQ (ldP pl h w F N) (xR' pl) w (N + 2) y
abbrev QP (pl : Nat → Nat) (h w : Nat → Rat) (F : Rat) (N : Nat) (y : Rat) : Rat := qQ (ldP pl h w F N) (xR' pl) w (N + 2) y
/-- the height at p, times 6 F s0 -/
def tzP (pl : Nat → Nat) (h w : Nat → Rat) (F : Rat) (N : Nat) (p : Rat) : Rat := (6 * F * h 0 - SP pl h w F N (pl 0)) * ((pl 1 : Rat) - p) + (6 * F * h 1 - SP pl h w F N (pl 1)) * (p - pl 0) + spR pl N 0 * SP pl h w F N p
/-- the slope at p, times 6 F s0 -/
def slP (pl : Nat → Nat) (h w : Nat → Rat) (F : Rat) (N : Nat) (p : Rat) : Rat := (6 * F * h 1 - SP pl h w F N (pl 1)) - (6 * F * h 0 - SP pl h w F N (pl 0)) + 3 * spR pl N 0 * QP pl h w F N p
/-- what solve leaves, over again -/
def SolO (I : IM) (L : LM) (b N : Nat) (pl : Nat → Nat) (h w : Nat → Rat) (F : Rat) : Prop := SolI I L b N pl h w F ∧ (∀ i, i < N + 2 → RI (L (b + 3) i) (DQ (spR pl N) N * ldP pl h w F N i)) ∧ RI (L b 4) (DQ (spR pl N) N) ∧ RI (L (b + 6) 0) (spR pl N 0)
section NL
variable {I : IM} {L : LM} {b N : Nat} {pl : Nat → Nat} {h w : Nat → Rat} {F : Rat}
theorem SolO_of (hP : isP pl N) (hS : SolI I L b N pl h w F) : SolO I (solL I L b (N + 2) pl) b N pl h w F := by
  obtain ⟨h1, h2, h3⟩ := sol_ok hP hS
  refine ⟨⟨hS.1, hS.2.1, ?_, ?_, ?_, fun p hp => ?_, fun p hp => ?_⟩, h1, h2, h3⟩
  · rw [solL_o (by omega) (by omega)]; exact hS.2.2.1
  · rw [solL_o (by omega) (by omega)]; exact hS.2.2.2.1
  · rw [solL_o (by omega) (by omega)]; exact hS.2.2.2.2.1
  · rw [solL_o (by omega) (by omega)]; exact hS.2.2.2.2.2.1 p hp
  · rw [solL_o (by omega) (by omega)]; exact hS.2.2.2.2.2.2 p hp
theorem S_at0 (hP : isP pl N) (r : Nat → Rat) : SQ r (xR' pl) w (N + 2) (pl 0 : Rat) = -sQ (fun q => w q * cb ((pl 0 : Rat) - q)) 13 := by
  unfold SQ
  rw [sQ_zero (fun k hk => by
    have := isX_le (isP_X hP) (Nat.zero_le k) (by omega)
    have this : (pl 0 : Rat) ≤ (pl k : Rat) := this
    rw [cb_0 (show (pl 0 : Rat) - pl k ≤ 0 by grind)]
    grind)]
  grind
theorem S_at1 (hP : isP pl N) (r : Nat → Rat) : SQ r (xR' pl) w (N + 2) (pl 1 : Rat) = r 0 * spR pl N 0 * spR pl N 0 * spR pl N 0 - sQ (fun q => w q * cb ((pl 1 : Rat) - q)) 13 := by
  unfold SQ
  have hX := isP_X hP
  have h1 : (pl 1 : Rat) = (pl 0 : Rat) + spR pl N 0 := hX.2 0 (by omega)
  have hs := hX.1 0
  have e : sQ (fun k => r k * cb ((pl 1 : Rat) - pl k)) (N + 2) = r 0 * spR pl N 0 * spR pl N 0 * spR pl N 0 := by
    refine sQ_one (i := 0) _ (by omega) (fun k hk => ?_)
    by_cases c : k = 0
    · subst c
      rw [if_pos rfl]
      unfold cb
      rw [if_neg (by grind)]
      grind
    · rw [if_neg c]
      have := isX_le hX (show 1 ≤ k by omega) (by omega)
      have this : (pl 1 : Rat) ≤ (pl k : Rat) := this
      rw [cb_0 (by grind)]
      grind
  rw [e]
theorem bul_RI {c : Int64} {P D : Nat → Int64} {q0 : Rat} {p d : Nat → Rat} (hc : RI c q0) : ∀ n, (∀ k, k < n → RI (P k) (p k)) → (∀ k, k < n → ((D k).toInt : Rat) = d k) → RI (bulF c P D n) (q0 + sQ (fun k => p k * cb (d k)) n)
  | 0, _, _ => RI_eq hc (by simp only [sQ]; grind)
  | n + 1, h1, h2 => by
    have ih := bul_RI hc n (fun k hk => h1 k (by omega)) (fun k hk => h2 k (by omega))
    have hd := h2 n (by omega)
    have hD := RI_64 (D n)
    rw [hd] at hD
    have e : (D n).toInt ≤ 0 ↔ d n ≤ 0 := by
      rw [← hd]
      exact (Rat.intCast_le_intCast (a := (D n).toInt) (b := 0)).symm
    show RI (if (D n).toInt ≤ 0 then bulF c P D n else bulF c P D n + P n * D n * D n * D n) (q0 + (sQ (fun k => p k * cb (d k)) n + p n * cb (d n)))
    unfold cb
    by_cases c : (D n).toInt ≤ 0
    · rw [if_pos c, if_pos (e.mp c)]
      refine RI_eq ih ?_
      unfold cb
      grind
    · rw [if_neg c, if_neg (fun z => c (e.mpr z))]
      refine RI_eq (RI_add ih (RI_mul (RI_mul (RI_mul (h1 n (by omega)) hD) hD) hD)) ?_
      unfold cb
      grind
theorem slo_RI {c : Int64} {P D : Nat → Int64} {q0 : Rat} {p d : Nat → Rat} (hc : RI c q0) : ∀ n, (∀ k, k < n → RI (P k) (p k)) → (∀ k, k < n → ((D k).toInt : Rat) = d k) → RI (sloF c P D n) (q0 + sQ (fun k => p k * sq2 (d k)) n)
  | 0, _, _ => RI_eq hc (by simp only [sQ]; grind)
  | n + 1, h1, h2 => by
    have ih := slo_RI hc n (fun k hk => h1 k (by omega)) (fun k hk => h2 k (by omega))
    have hd := h2 n (by omega)
    have hD := RI_64 (D n)
    rw [hd] at hD
    have e : (D n).toInt ≤ 0 ↔ d n ≤ 0 := by
      rw [← hd]
      exact (Rat.intCast_le_intCast (a := (D n).toInt) (b := 0)).symm
    show RI (if (D n).toInt ≤ 0 then sloF c P D n else sloF c P D n + P n * D n * D n) (q0 + (sQ (fun k => p k * sq2 (d k)) n + p n * sq2 (d n)))
    unfold sq2
    by_cases c : (D n).toInt ≤ 0
    · rw [if_pos c, if_pos (e.mp c)]
      refine RI_eq ih ?_
      unfold sq2
      grind
    · rw [if_neg c, if_neg (fun z => c (e.mpr z))]
      refine RI_eq (RI_add ih (RI_mul (RI_mul (h1 n (by omega)) hD) hD)) ?_
      unfold sq2
      grind
theorem hei_RI (hP : isP pl N) (hS : SolO I L b N pl h w F) {p : Nat} (hp : p < 13) : RI (heiL I L b (N + 2) (nI p) p (pl 0) (pl 1)) (DQ (spR pl N) N * tzP pl h w F N p) ∧ RI (hbL L b) (6 * F * spR pl N 0 * DQ (spR pl N) N) := by
  obtain ⟨hI, h3, h4, h6⟩ := hS
  have p0 := isP_le hP (show 0 < N + 2 by omega)
  have p1 := isP_le hP (show 1 < N + 2 by omega)
  have hh0 := RI_32 (I (b + 2) 0)
  have hh1 := RI_32 (I (b + 2) 1)
  rw [hI.2.1 0 (by omega)] at hh0
  rw [hI.2.1 1 (by omega)] at hh1
  have hb := bul_RI (c := -L b 4 * L (b + 5) p) (P := L (b + 3)) (D := dstL I b (nI p)) (p := fun k => DQ (spR pl N) N * ldP pl h w F N k) (d := fun k => (p : Rat) - pl k) (RI_mul (RI_neg h4) (hI.2.2.2.2.2.1 p hp)) (N + 2) h3 (fun k hk => by
    unfold dstL
    rw [hI.1 k hk]
    have := isP_le hP hk
    exact (RI_dif (by omega) (by omega)).2)
  have eb : -DQ (spR pl N) N * sQ (fun q => w q * cb ((p : Rat) - q)) 13 + sQ (fun k => DQ (spR pl N) N * ldP pl h w F N k * cb ((p : Rat) - pl k)) (N + 2) = DQ (spR pl N) N * SP pl h w F N p := by
    have e : sQ (fun k => DQ (spR pl N) N * ldP pl h w F N k * cb ((p : Rat) - pl k)) (N + 2) = DQ (spR pl N) N * sQ (fun k => ldP pl h w F N k * cb ((p : Rat) - pl k)) (N + 2) := by
      rw [← sQ_mul]
      exact sQ_congr (fun k hk => by grind)
    rw [e]
    show _ = DQ (spR pl N) N * (sQ (fun k => ldP pl h w F N k * cb ((p : Rat) - pl k)) (N + 2) - sQ (fun q => w q * cb ((p : Rat) - q)) 13)
    grind
  refine ⟨?_, RI_eq (RI_mul (RI_mul (RI_mul RI_6 hI.2.2.1) h6) h4) (by grind)⟩
  unfold heiL flL slL bulL
  rw [hI.1 0 (by omega), hI.1 1 (by omega)]
  refine RI_eq (RI_add (RI_add (RI_mul (RI_mul h4 (RI_add (RI_mul (RI_mul RI_6 hI.2.2.1) hh0) (hI.2.2.2.2.2.1 (pl 0) (by omega)))) (RI_dif (show pl 1 < 2 ^ 30 by omega) (show p < 2 ^ 30 by omega)).1) (RI_mul (RI_sub (RI_mul h4 (RI_add (RI_mul (RI_mul RI_6 hI.2.2.1) hh1) (hI.2.2.2.2.2.1 (pl 1) (by omega)))) (RI_mul (RI_mul (RI_mul (h3 0 (by omega)) h6) h6) h6)) (RI_dif (show p < 2 ^ 30 by omega) (show pl 0 < 2 ^ 30 by omega)).1)) (RI_mul h6 (RI_eq hb eb))) ?_
  have s0 : SP pl h w F N (pl 0) = _ := S_at0 hP (ldP pl h w F N)
  have s1 : SP pl h w F N (pl 1) = _ := S_at1 hP (ldP pl h w F N)
  unfold tzP
  rw [s0, s1]
  grind
theorem sle_RI (hP : isP pl N) (hS : SolO I L b N pl h w F) {p : Nat} (hp : p < 13) : RI (sleL I L b (N + 2) (nI p) p (pl 0) (pl 1)) (DQ (spR pl N) N * slP pl h w F N p) := by
  obtain ⟨hI, h3, h4, h6⟩ := hS
  have p0 := isP_le hP (show 0 < N + 2 by omega)
  have p1 := isP_le hP (show 1 < N + 2 by omega)
  have hh0 := RI_32 (I (b + 2) 0)
  have hh1 := RI_32 (I (b + 2) 1)
  rw [hI.2.1 0 (by omega)] at hh0
  rw [hI.2.1 1 (by omega)] at hh1
  have hb := slo_RI (c := -L b 4 * L (b + 4) p) (P := L (b + 3)) (D := dstL I b (nI p)) (p := fun k => DQ (spR pl N) N * ldP pl h w F N k) (d := fun k => (p : Rat) - pl k) (RI_mul (RI_neg h4) (hI.2.2.2.2.2.2 p hp)) (N + 2) h3 (fun k hk => by
    unfold dstL
    rw [hI.1 k hk]
    have := isP_le hP hk
    exact (RI_dif (by omega) (by omega)).2)
  have eb : -DQ (spR pl N) N * sQ (fun q => w q * sq2 ((p : Rat) - q)) 13 + sQ (fun k => DQ (spR pl N) N * ldP pl h w F N k * sq2 ((p : Rat) - pl k)) (N + 2) = DQ (spR pl N) N * QP pl h w F N p := by
    have e : sQ (fun k => DQ (spR pl N) N * ldP pl h w F N k * sq2 ((p : Rat) - pl k)) (N + 2) = DQ (spR pl N) N * sQ (fun k => ldP pl h w F N k * sq2 ((p : Rat) - pl k)) (N + 2) := by
      rw [← sQ_mul]
      exact sQ_congr (fun k hk => by grind)
    rw [e]
    show _ = DQ (spR pl N) N * (sQ (fun k => ldP pl h w F N k * sq2 ((p : Rat) - pl k)) (N + 2) - sQ (fun q => w q * sq2 ((p : Rat) - q)) 13)
    grind
  unfold sleL flL slL
  refine RI_eq (RI_add (RI_sub (RI_sub (RI_mul h4 (RI_add (RI_mul (RI_mul RI_6 hI.2.2.1) hh1) (hI.2.2.2.2.2.1 (pl 1) (by omega)))) (RI_mul (RI_mul (RI_mul (h3 0 (by omega)) h6) h6) h6)) (RI_mul h4 (RI_add (RI_mul (RI_mul RI_6 hI.2.2.1) hh0) (hI.2.2.2.2.2.1 (pl 0) (by omega))))) (RI_mul (RI_mul RI_3 h6) (RI_eq hb eb))) ?_
  have s0 : SP pl h w F N (pl 0) = _ := S_at0 hP (ldP pl h w F N)
  have s1 : SP pl h w F N (pl 1) = _ := S_at1 hP (ldP pl h w F N)
  unfold slP
  rw [s0, s1]
  grind
end NL
/-! carry: weights' sums -/
theorem sQ_nat {f : Nat → Rat} {n : Nat} : ∀ m, n ≤ m → (∀ k, n ≤ k → k < m → f k = 0) → sQ f m = sQ f n
  | 0, h, _ => by
    have : n = 0 := by omega
    subst this
    rfl
  | m + 1, h, hf => by
    by_cases c : n = m + 1
    · subst c
      rfl
    · show sQ f m + f m = _
      rw [sQ_nat m (by omega) (fun k h1 h2 => hf k h1 (by omega)), hf m (by omega) (by omega)]
      grind
section NC
variable {W : Nat → Int32} {fr to : Int32} {w : Nat → Rat}
/-- the weights that are carried -/
def carW (W : Nat → Int32) (fr to : Int32) (w : Nat → Rat) : Prop := ∀ p, p < 13 → (if inFT fr to p = true then RI (W p).toInt64 (w p) ∧ RI (nI p * W p).toInt64 (p * w p) else w p = 0)
theorem carA_RI (h : carW W fr to w) : ∀ p, p ≤ 13 → RI (carA W fr to p) (sQ w p)
  | 0, _ => RI_0
  | p + 1, hp => by
    have ih := carA_RI h p (by omega)
    have e := h p (by omega)
    show RI (if inFT fr to p = true then carA W fr to p + (W p).toInt64 else carA W fr to p) (sQ w p + w p)
    by_cases c : inFT fr to p = true
    · rw [if_pos c] at e ⊢
      exact RI_add ih e.1
    · rw [if_neg c] at e ⊢
      rw [e]
      exact RI_eq ih (by grind)
theorem carM_RI (h : carW W fr to w) : ∀ p, p ≤ 13 → RI (carM W fr to p) (sQ (fun q => q * w q) p)
  | 0, _ => RI_0
  | p + 1, hp => by
    have ih := carM_RI h p (by omega)
    have e := h p (by omega)
    show RI (if inFT fr to p = true then carM W fr to p + (nI p * W p).toInt64 else carM W fr to p) (sQ (fun q => q * w q) p + p * w p)
    by_cases c : inFT fr to p = true
    · rw [if_pos c] at e ⊢
      exact RI_add ih e.2
    · rw [if_neg c] at e ⊢
      rw [e]
      exact RI_eq ih (by grind)
theorem carO_RI (h : carW W fr to w) : ∀ p, p ≤ 13 → RI (carO W fr to p) (sQ (fun q => w q * ((p : Rat) - q)) p)
  | 0, _ => RI_0
  | p + 1, hp => by
    refine RI_eq (RI_add (carO_RI h p (by omega)) (carA_RI h (p + 1) hp)) ?_
    have c := cast_s p
    have e : sQ (fun q => w q * (((p + 1 : Nat) : Rat) - q)) p = sQ (fun q => w q * ((p : Rat) - q)) p + sQ w p := by
      rw [← sQ_add]
      exact sQ_congr (fun k _ => by rw [c]; grind)
    show _ + (sQ w p + w p) = sQ (fun q => w q * (((p + 1 : Nat) : Rat) - q)) p + w p * (((p + 1 : Nat) : Rat) - p)
    rw [e, c]
    grind
theorem carS_RI (h : carW W fr to w) : ∀ p, p ≤ 13 → RI (carS W fr to p) (sQ (fun q => w q * (((p : Rat) - q) * ((p : Rat) - q))) p)
  | 0, _ => RI_0
  | p + 1, hp => by
    refine RI_eq (RI_add (carS_RI h p (by omega)) (RI_add (RI_mul RI_2 (carO_RI h p (by omega))) (carA_RI h (p + 1) hp))) ?_
    have c := cast_s p
    have e : sQ (fun q => w q * ((((p + 1 : Nat) : Rat) - q) * (((p + 1 : Nat) : Rat) - q))) p = sQ (fun q => w q * (((p : Rat) - q) * ((p : Rat) - q))) p + 2 * sQ (fun q => w q * ((p : Rat) - q)) p + sQ w p := by
      rw [← sQ_mul, ← sQ_add, ← sQ_add]
      exact sQ_congr (fun k _ => by rw [c]; grind)
    show _ + (_ + (sQ w p + w p)) = sQ (fun q => w q * ((((p + 1 : Nat) : Rat) - q) * (((p + 1 : Nat) : Rat) - q))) p + w p * ((((p + 1 : Nat) : Rat) - p) * (((p + 1 : Nat) : Rat) - p))
    rw [e, c]
    grind
theorem carC_RI (h : carW W fr to w) : ∀ p, p ≤ 13 → RI (carC W fr to p) (sQ (fun q => w q * (((p : Rat) - q) * ((p : Rat) - q) * ((p : Rat) - q))) p)
  | 0, _ => RI_0
  | p + 1, hp => by
    refine RI_eq (RI_add (carC_RI h p (by omega)) (RI_add (RI_mul RI_3 (RI_add (carS_RI h p (by omega)) (carO_RI h p (by omega)))) (carA_RI h (p + 1) hp))) ?_
    have c := cast_s p
    have e : sQ (fun q => w q * ((((p + 1 : Nat) : Rat) - q) * (((p + 1 : Nat) : Rat) - q) * (((p + 1 : Nat) : Rat) - q))) p = sQ (fun q => w q * (((p : Rat) - q) * ((p : Rat) - q) * ((p : Rat) - q))) p + 3 * sQ (fun q => w q * (((p : Rat) - q) * ((p : Rat) - q))) p + 3 * sQ (fun q => w q * ((p : Rat) - q)) p + sQ w p := by
      rw [← sQ_mul, ← sQ_mul, ← sQ_add, ← sQ_add, ← sQ_add]
      exact sQ_congr (fun k _ => by rw [c]; grind)
    show _ + (_ + (sQ w p + w p)) = sQ (fun q => w q * ((((p + 1 : Nat) : Rat) - q) * (((p + 1 : Nat) : Rat) - q) * (((p + 1 : Nat) : Rat) - q))) p + w p * ((((p + 1 : Nat) : Rat) - p) * (((p + 1 : Nat) : Rat) - p) * (((p + 1 : Nat) : Rat) - p))
    rw [e, c]
    grind
theorem cast_le {a b : Nat} (h : a ≤ b) : (a : Rat) ≤ (b : Rat) := by
  have : ((a : Int) : Rat) ≤ ((b : Int) : Rat) := by
    rw [Rat.intCast_le_intCast]
    omega
  exact this
theorem cast_lt {a b : Nat} (h : a < b) : (a : Rat) < (b : Rat) := by
  have : ((a : Int) : Rat) < ((b : Int) : Rat) := by
    rw [Rat.intCast_lt_intCast]
    omega
  exact this
theorem car_cb {p : Nat} (hp : p ≤ 13) : sQ (fun q => w q * cb ((p : Rat) - q)) 13 = sQ (fun q => w q * (((p : Rat) - q) * ((p : Rat) - q) * ((p : Rat) - q))) p := by
  rw [sQ_nat (n := p) 13 hp (fun k h1 _ => by
    have := cast_le h1
    rw [cb_0 (by grind)]
    grind)]
  refine sQ_congr (fun k hk => ?_)
  have := cast_lt hk
  unfold cb
  rw [if_neg (by grind)]
theorem car_sq {p : Nat} (hp : p ≤ 13) : sQ (fun q => w q * sq2 ((p : Rat) - q)) 13 = sQ (fun q => w q * (((p : Rat) - q) * ((p : Rat) - q))) p := by
  rw [sQ_nat (n := p) 13 hp (fun k h1 _ => by
    have := cast_le h1
    rw [sq2_0 (by grind)]
    grind)]
  refine sQ_congr (fun k hk => ?_)
  have := cast_lt hk
  unfold sq2
  rw [if_neg (by grind)]
end NC
