/-! couplings, bounds of the model -/
theorem ipt_or {ret : Option Value} {P Q : Prop} (h : (¬ P ∧ ret = some (.int 0)) ∨ (P ∧ ret = some (.int 1) ∧ Q)) : ∃ bb : Bool, ret = some (.int (bI bb)) ∧ (bb = true → P ∧ Q) ∧ (bb = false → ¬ P) := by
  rcases h with ⟨h1, h2⟩ | ⟨h1, h2, h3⟩
  · exact ⟨false, h2, fun c => absurd c (by decide), fun _ => h1⟩
  · exact ⟨true, h2, fun _ => ⟨h1, h3⟩, fun c => absurd c (by decide)⟩
theorem sd_0 {p : Nat} : ∀ r, r < 13 → ((if r < p then (1 : Int32) else 0) = 0 ↔ p ≤ r ∧ r < 13) := fun r hr => by
  by_cases c : r < p
  · rw [if_pos c]
    exact ⟨fun q => absurd q (by decide), fun q => by omega⟩
  · rw [if_neg c]
    exact ⟨fun _ => by omega, fun _ => rfl⟩
theorem sd_1 {p : Nat} : ∀ r, r < 13 → ((if r < p then (1 : Int32) else 0) = 1 ↔ 0 ≤ r ∧ r < p) := fun r hr => by
  by_cases c : r < p
  · rw [if_pos c]
    exact ⟨fun _ => by omega, fun _ => rfl⟩
  · rw [if_neg c]
    exact ⟨fun q => absurd q (by decide), fun q => by omega⟩
theorem cpl_M {L : LM} {m N N' D1 D2 f p : Nat} {pl pl' : Nat → Nat} {h w h' w' : Nat → Rat} {F : Rat} {a b : Int64} {u : Int32} (hB : okB pl h w F 70 N) (hB' : okB pl' h' w' F 70 N') (hDQ : DQ (spR pl N) N = (D1 : Rat)) (hDQ' : DQ (spR pl' N') N' = (D2 : Rat)) (hD : 0 < D1) (hD' : 0 < D2) (h1 : 1 ≤ f) (h2 : f ≤ 20) (hp : p < 13) (hl : pl (N + 1) < p) (hr : p ≤ pl' 0)
    (r1 : PF L m (D1 * (6 * f) * spP pl N 0) (eoP pl h w F N p u)) (r2 : RF a b (eoP pl' h' w' F N' p u)) (d2 : (eoP pl' h' w' F N' p u).den ∣ D2 * (6 * f) * spP pl' N' 0) : ¬ gcdL (L m 18) b = 0 ∧ ¬ gcdL (adN L m (-a) b) (adD L m b) = 0 ∧ RF (adL L m (-a) b m 17) (adL L m (-a) b m 18) (eoP pl h w F N p u - eoP pl' h' w' F N' p u) := by
  have sx := D_span hB.1
  have sy := D_span hB'.1
  have ex : DQ (spR pl N) N * spR pl N 0 = ((D1 * spP pl N 0 : Nat) : Rat) := by
    rw [hDQ, Rat.natCast_mul]
    rfl
  have ey : DQ (spR pl' N') N' * spR pl' N' 0 = ((D2 * spP pl' N' 0 : Nat) : Rat) := by
    rw [hDQ', Rat.natCast_mul]
    rfl
  rw [ex] at sx
  rw [ey] at sy
  have sx := Rat.natCast_le_natCast.mp sx
  have sy := Rat.natCast_le_natCast.mp sy
  have hp1 := hB'.1.2.1
  have hs1 := spP_pos hB.1 0
  have hs2 := spP_pos hB'.1 0
  have x0 : 0 < D1 * spP pl N 0 := Nat.mul_pos hD (by omega)
  have y0 : 0 < D2 * spP pl' N' 0 := Nat.mul_pos hD' (by omega)
  obtain ⟨d1, d3, d4⟩ := D4_ok hB'.1 hDQ' hD' h1 h2
  have e1 : D1 * (6 * f) * spP pl N 0 = 6 * f * (D1 * spP pl N 0) := by grind
  have e2 : D2 * (6 * f) * spP pl' N' 0 = 6 * f * (D2 * spP pl' N' 0) := by grind
  rw [e1] at r1
  have e2' := e2
  rw [e2] at d2
  rw [e2] at d1 d4
  generalize D1 * spP pl N 0 = Xx at *
  generalize D2 * spP pl' N' 0 = Yy at *
  have hxy : Xx * Yy ≤ 6 ^ 11 := by
    have k1 : Xx * Yy ≤ 6 ^ (pl (N + 1) - pl 0) * 6 ^ (pl' (N' + 1) - pl' 0) := Nat.mul_le_mul sx sy
    have k2 : 6 ^ (pl (N + 1) - pl 0) * 6 ^ (pl' (N' + 1) - pl' 0) = 6 ^ ((pl (N + 1) - pl 0) + (pl' (N' + 1) - pl' 0)) := (Nat.pow_add ..).symm
    have k3 : 6 ^ ((pl (N + 1) - pl 0) + (pl' (N' + 1) - pl' 0)) ≤ 6 ^ 11 := Nat.pow_le_pow_right (by decide) (by omega)
    omega
  have hDle : 6 * f * (Xx * Yy) ≤ 120 * 6 ^ 11 := Nat.mul_le_mul (by omega) hxy
  have e11 : 120 * 6 ^ 11 = 43535646720 := by decide
  have hxyp : 0 < Xx * Yy := Nat.mul_pos x0 y0
  have hDp : 0 < 6 * f * (Xx * Yy) := Nat.mul_pos (by omega) hxyp
  obtain ⟨e, hb⟩ := RF_mul r2
  have b1 := eo_in hB hp u
  have b2 := eo_in hB' hp u
  have hn := num_in r2 d2 d1 d4 b2 (by grind)
  have r1' : PF L m (6 * f * (Xx * Yy)) (eoP pl h w F N p u) := ⟨r1.1, Nat.dvd_trans r1.2 ⟨Yy, by grind⟩⟩
  have hbd : b.toInt.natAbs ∣ 6 * f * (Xx * Yy) := by
    rw [r2.2]
    exact Nat.dvd_trans d2 ⟨Xx, by grind⟩
  have hC : inQ ((6 * f * (Xx * Yy) : Nat) : Rat) 43535646720 := by
    have z1 : ((6 * f * (Xx * Yy) : Nat) : Rat) ≤ ((43535646720 : Nat) : Rat) := cast_le (by omega)
    have z2 : ((43535646720 : Nat) : Rat) = 43535646720 := rfl
    have z3 := p_ge (6 * f * (Xx * Yy))
    unfold inQ
    constructor <;> grind
  have g := ad_PFg (B := 96000000) r1' hb (neg_64 hn e) hDp (by omega) hC hbd (inQ_le (inQ_add b1 (inQ_neg b2)) (by grind)) (by grind)
  refine ⟨g.1, g.2.1, ?_⟩
  have e9 : eoP pl h w F N p u - eoP pl' h' w' F N' p u = eoP pl h w F N p u + -eoP pl' h' w' F N' p u := by grind
  rw [e9]
  exact g.2.2.1
/-- BOUNDS of the model -/
def LHm (I : IM) (m : Nat) (lo hi : Int) : Prop := (I m 37).toInt = lo ∧ (I m 38).toInt = hi ∧ 0 ≤ lo ∧ lo ≤ 600 ∧ 0 ≤ hi ∧ hi ≤ 600
theorem LHm_MI {m : Nat} {I I' : IM} {lo hi : Int} (h : LHm I m lo hi) (f : frMI m I I') : LHm I' m lo hi := by
  unfold LHm at *
  rw [f m 37 (by omega) (by omega) (by omega) (by omega) (by omega) (by omega), f m 38 (by omega) (by omega) (by omega) (by omega) (by omega) (by omega)]
  exact h
theorem qld_den {I : IM} {m n b : Nat} {s : Nat → Bool} {q : Nat → Nat} {hh w : Nat → Rat} {F H : Rat} (ok : okS q hh w F H n) (h2 : 2 ≤ cntS s n) (hS : SolM I m (cntS s n - 2) (lyN s q n) (lyQ s hh n) w F) (hb : b < n) : (qLdG s q hh w F n b).den ≤ 204472320 := by
  unfold qLdG
  by_cases c : s b = true
  · rw [if_pos c]
    obtain ⟨D, b1, b2, b3⟩ := dq_nat (okS_B ok h2).1
    have hlt := cntS_mono c n hb
    have := Nat.le_of_dvd b2 (ld_D (okS_B ok h2).1 hS (show cntS s b < cntS s n - 2 + 2 by omega) b1 b2)
    exact Nat.le_trans this b3
  · rw [if_neg c]
    decide
theorem bd_cmp {x y : Int64} {z : Int32} {q : Rat} {g : Int} (h : RF x y q) (hy : q.den ≤ 204472320) (hz : z.toInt = g) (h1 : 0 ≤ g) (h2 : g ≤ 600) : ((z.toInt64 * y).toInt ≤ x.toInt ↔ (g : Rat) ≤ q) ∧ (x.toInt ≤ (z.toInt64 * y).toInt ↔ q ≤ (g : Rat)) := by
  obtain ⟨e, hp⟩ := RF_mul h
  have hy2 : y.toInt ≤ 204472320 := by rw [h.2]; omega
  have hyy : inQ (y.toInt : Rat) ((204472320 : Int) : Rat) := int_inQ (by omega) hy2
  have hzz : inQ (z.toInt : Rat) ((600 : Int) : Rat) := int_inQ (by omega) (by omega)
  have e2 : ((z.toInt64 * y).toInt : Rat) = (z.toInt : Rat) * (y.toInt : Rat) := RI_get (RI_mul (RI_32 z) (RI_64 y)) (by
    refine inQ_le (inQ_mul hzz hyy) ?_
    have k1 : ((204472320 : Int) : Rat) = 204472320 := rfl
    have k2 : ((600 : Int) : Rat) = 600 := rfl
    rw [k1, k2]
    grind)
  have hd : (0 : Rat) < (y.toInt : Rat) := Rat.intCast_lt_intCast.mpr hp
  rw [← Rat.intCast_le_intCast, ← Rat.intCast_le_intCast, e2, e, hz, mul_le_c hd, mul_le_c hd]
  exact ⟨Iff.rfl, Iff.rfl⟩
/-- THE SHAFT fits in one STATE -/
def fitU (A : LA) (lo hi : Int) (s : Nat) : Prop := ∃ c, firC (aN A) (lieC (aN A) (aQ A) (hgt A s) (wgt A) (stf A)) c ∧ wbS A s (setA A c) lo hi
theorem fitU_y {A : LA} {lo hi : Int} {g : Nat → Bool} {k : Nat} (h : fitP A lo hi g k) (hk : g k = true → fitU A lo hi k) : fitP A lo hi g (k + 1) := fit_s h hk
theorem fitU_n {A : LA} {lo hi : Int} {g : Nat → Bool} {k s : Nat} (hs : s < k) (hg : g s = true) (h : ¬ fitU A lo hi s) : ¬ fitP A lo hi g k := fun q => h (q s hs hg)
/-- among the loads of a set: the first b are within BOUNDS, or the set is given up -/
def wbI (A : LA) (lo hi : Int) (s : Nat) (x y : Int32) (b : Nat) : Prop := (0 ≤ y ∧ y = x ∧ ∀ c, firC (aN A) (lieC (aN A) (aQ A) (hgt A s) (wgt A) (stf A)) c → ∀ j, j < b → (lo : Rat) ≤ qLd A s (setA A c) j ∧ qLd A s (setA A c) j ≤ (hi : Rat)) ∨ (¬ 0 ≤ y ∧ ¬ fitU A lo hi s)
theorem wbI_0 {A : LA} {lo hi : Int} {s : Nat} {x y : Int32} (e : y = x) (hn : ¬ 0 ≤ x → nonC (aN A) (lieC (aN A) (aQ A) (hgt A s) (wgt A) (stf A))) : wbI A lo hi s x y 0 := by
  by_cases c : 0 ≤ x
  · exact Or.inl ⟨by rw [e]; exact c, e, fun _ _ j hj => absurd hj (Nat.not_lt_zero _)⟩
  · exact Or.inr ⟨by rw [e]; exact c, fun ⟨d, hd, _⟩ => fir_non hd (hn c)⟩
theorem wbI_s {A : LA} {lo hi : Int} {s b c : Nat} {x y z : Int32} (h : wbI A lo hi s x y b) (hy : 0 ≤ y) (hc : firC (aN A) (lieC (aN A) (aQ A) (hgt A s) (wgt A) (stf A)) c) (hw : (lo : Rat) ≤ qLd A s (setA A c) b ∧ qLd A s (setA A c) b ≤ (hi : Rat)) (ez : z = y) : wbI A lo hi s x z (b + 1) := by
  rcases h with ⟨h1, h2, h3⟩ | ⟨h1, _⟩
  · refine Or.inl ⟨by rw [ez]; exact h1, ez.trans h2, fun d hd j hj => ?_⟩
    by_cases e : j = b
    · rw [e, fir_u hd hc]; exact hw
    · exact h3 d hd j (by omega)
  · exact absurd hy h1
theorem wbI_f {A : LA} {lo hi : Int} {s b c : Nat} {x z : Int32} (hb : b < aN A) (hc : firC (aN A) (lieC (aN A) (aQ A) (hgt A s) (wgt A) (stf A)) c) (hw : ¬ ((lo : Rat) ≤ qLd A s (setA A c) b ∧ qLd A s (setA A c) b ≤ (hi : Rat))) (ez : z = -4) : wbI A lo hi s x z (b + 1) := by
  refine Or.inr ⟨by rw [ez]; decide, fun ⟨d, hd, h⟩ => ?_⟩
  rw [fir_u hd hc] at h
  exact hw (h b hb)
theorem wbI_e {A : LA} {lo hi : Int} {s b : Nat} {x y : Int32} (h : wbI A lo hi s x y b) (hx : 0 ≤ x → ∃ c, firC (aN A) (lieC (aN A) (aQ A) (hgt A s) (wgt A) (stf A)) c) (hb : ¬ 0 ≤ y ∨ b = aN A) : (0 ≤ y → fitU A lo hi s) ∧ (¬ 0 ≤ y → ¬ fitU A lo hi s) := by
  rcases h with ⟨h1, h2, h3⟩ | ⟨h1, h2⟩
  · refine ⟨fun _ => ?_, fun c => absurd h1 c⟩
    obtain ⟨c, hc⟩ := hx (by rw [← h2]; exact h1)
    rcases hb with hb | hb
    · exact absurd h1 hb
    · exact ⟨c, hc, fun j hj => h3 c hc j (by omega)⟩
  · exact ⟨fun c => absurd c h1, fun _ => h2⟩
theorem frF_0 {m : Nat} {L : LM} : frF m L L := fun _ _ _ => rfl
