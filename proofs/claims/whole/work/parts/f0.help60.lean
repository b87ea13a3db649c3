theorem dv6 {v c : Rat} {f : Nat} (h : inQ v c) (h1 : 1 ≤ f) (hc : 0 ≤ c) : inQ (v / (6 * (f : Rat))) (c / 6) := by
  have c1 : (1 : Rat) ≤ (f : Rat) := cast_le h1
  have e : v / (6 * (f : Rat)) = (v / 6) / (f : Rat) := by grind
  rw [e]
  refine dv_in ?_ c1 (by grind)
  unfold inQ at *
  grind
theorem tlt_in {I : IM} {m n f : Nat} {pl : Nat → Nat} {h w : Nat → Rat} {F H : Rat} (hB : okB pl h w F H n) (hS : SolM I m n pl h w F) (h1 : 1 ≤ f) : inQ (tltQ pl h w F n f) 6000000 := by
  have b0 := isP_le hB.1 (show 0 < n + 2 by omega)
  have b1 := isP_le hB.1 (show 1 < n + 2 by omega)
  unfold tltQ
  refine dv_in (inQ_le (inQ_add (inQ_add (dv6 (S_15 hB b0) h1 (by grind)) (inQ_neg (dv6 (S_15 hB b1) h1 (by grind)))) (dh_in hB hS).2) (by grind)) (spR_in hB.1 0).2.1 (by grind)
theorem smV_3 {n x : Nat} {pl : Nat → Nat} {h w : Nat → Rat} {F : Rat} : smV pl h w F n (fun d => 3 * sq2 d) x = 3 * QP pl h w F n (x : Rat) := by
  have e1 : sQ (fun k => ldP pl h w F n k * (3 * sq2 ((x : Rat) - pl k))) (n + 2) = 3 * sQ (fun k => ldP pl h w F n k * sq2 ((x : Rat) - pl k)) (n + 2) := by
    rw [← sQ_mul]
    exact sQ_congr (fun k _ => by grind)
  have e2 : sQ (fun p => w p * (3 * sq2 ((x : Rat) - p))) 13 = 3 * sQ (fun p => w p * sq2 ((x : Rat) - p)) 13 := by
    rw [← sQ_mul]
    exact sQ_congr (fun k _ => by grind)
  show sQ (fun k => ldP pl h w F n k * (3 * sq2 ((x : Rat) - pl k))) (n + 2) - sQ (fun p => w p * (3 * sq2 ((x : Rat) - p))) 13 = _
  rw [e1, e2]
  unfold QP qQ
  grind
theorem Q_3 {n x : Nat} {pl : Nat → Nat} {h w : Nat → Rat} {F H : Rat} (hB : okB pl h w F H n) (hx : x ≤ 12) : inQ (smV pl h w F n (fun d => 3 * sq2 d) x) 3000000 := by
  rw [smV_3]
  have h1 := q_in (okN hB) (tl_ok _ _) x hx
  have h2 := KM_le hB
  have c0 : (0 : Rat) ≤ (x : Rat) := cast_le (Nat.zero_le x)
  have c1 : (x : Rat) ≤ 12 := cast_le hx
  have h3 : inQ (3 : Rat) 3 := by unfold inQ; grind
  have hb : 2 * (x : Rat) * KM H ≤ 24 * 35250 := le_mul (by grind) (by grind) h2.1 h2.2
  exact inQ_le (inQ_mul h3 (inQ_le h1 hb)) (by grind)
def sloQ (pl : Nat → Nat) (h w : Nat → Rat) (F : Rat) (n f x : Nat) : Rat := smV pl h w F n (fun d => 3 * sq2 d) x / (6 * (f : Rat)) + tltQ pl h w F n f
theorem D3_ok {D6 s : Nat} (hD : 0 < D6) (hDl : D6 ≤ 24536678400) (h1 : 1 ≤ s) (h12 : s ≤ 12) : 0 < D6 * s ∧ D6 * s < 9223372036854775807 ∧ inQ ((D6 * s : Nat) : Rat) 294440140800 := by
  have e1 : D6 * s ≤ 24536678400 * 12 := Nat.mul_le_mul hDl h12
  have e2 : 0 < D6 * s := Nat.mul_pos hD (by omega)
  have c1 : ((D6 * s : Nat) : Rat) ≤ 294440140800 := cast_le (b := 294440140800) (by omega)
  have c0 : (0 : Rat) ≤ ((D6 * s : Nat) : Rat) := cast_le (Nat.zero_le _)
  refine ⟨e2, by omega, ?_⟩
  unfold inQ
  grind
theorem RF_t {a b : Int64} {v : Rat} {D : Nat} (h : RF a b v) (hv : v.den ∣ D) : (a.toInt : Rat) = v * (b.toInt : Rat) ∧ 0 < b.toInt ∧ b.toInt.natAbs ∣ D := by
  have hp := v.den_pos
  refine ⟨?_, by rw [h.2]; omega, by rw [h.2]; exact hv⟩
  rw [h.1, h.2, num_den, Rat.intCast_natCast]
