/-! a coupling: SAG, GAP -/
def eoP (pl : Nat → Nat) (h w : Nat → Rat) (F : Rat) (N p : Nat) (u : Int32) : Rat := if u = 0 then tzP pl h w F N p / (6 * F * spR pl N 0) else 10 * (slP pl h w F N p / (6 * F * spR pl N 0))
theorem div_two {a c1 c2 s d : Rat} (h : inQ a (c1 + s * c2)) (h1 : 0 ≤ c1) (h2 : 0 ≤ c2) (hs : 1 ≤ s) (hd : 6 * s ≤ d) : inQ (a / d) (c1 / 6 + c2 / 6) := by
  have hp : 0 < d := by grind
  have hn : d ≠ 0 := by grind
  have e : a / d * d = a := Rat.div_mul_cancel hn
  have k1 := Rat.mul_le_mul_of_nonneg_left (show 6 ≤ d by grind) (show 0 ≤ c1 / 6 by grind)
  have k2 := Rat.mul_le_mul_of_nonneg_left hd (show 0 ≤ c2 / 6 by grind)
  obtain ⟨g1, g2⟩ := h
  constructor
  · refine Rat.le_of_mul_le_mul_right (c := d) ?_ hp
    rw [e]
    grind
  · refine Rat.le_of_mul_le_mul_right (c := d) ?_ hp
    rw [e]
    grind
section CP
variable {pl : Nat → Nat} {h w : Nat → Rat} {F H : Rat} {N : Nat}
theorem sl_in (a : okB pl h w F H N) {p : Nat} (hp : p < 13) : inQ (slP pl h w F N p) (240 * H + 864 * KM H + spR pl N 0 * (72 * KM H)) := by
  have h2 := KM_le a
  have h5 := a.2.2.2
  have f6 : inQ (6 * F) 120 := by
    unfold inQ
    grind
  have n := okN a
  have p0 := isP_le a.1 (show 0 < N + 2 by omega)
  have p1 := isP_le a.1 (show 1 < N + 2 by omega)
  have hs1 := sp_one a.1 0
  have hs : inQ (3 * spR pl N 0) (3 * spR pl N 0) := by
    unfold inQ
    grind
  have q : inQ (QP pl h w F N p) (24 * KM H) := by
    refine inQ_le (q_in (X := pl) n (tl_ok _ _) p (by omega)) ?_
    have := p_le hp
    have := Rat.mul_le_mul_of_nonneg_right this h2.1
    grind
  have k0 := inQ_sub (inQ_mul f6 (a.2.2.1 0)) (S_in (X := pl) n (tl_ok _ _) p0)
  have k1 := inQ_sub (inQ_mul f6 (a.2.2.1 1)) (S_in (X := pl) n (tl_ok _ _) p1)
  have k := inQ_add (inQ_sub k1 k0) (inQ_mul hs q)
  refine inQ_le k ?_
  grind
theorem eo_in (a : okB pl h w F 70 N) {p : Nat} (hp : p < 13) (u : Int32) : inQ (eoP pl h w F N p u) 48000000 := by
  have hs1 := sp_one a.1 0
  have h5 := a.2.2.2
  have hd : 6 * spR pl N 0 ≤ 6 * F * spR pl N 0 := by
    have := Rat.mul_le_mul_of_nonneg_right h5.1 (show 0 ≤ 6 * spR pl N 0 by grind)
    grind
  have hK : KM 70 = 30450 := by
    unfold KM
    grind
  unfold eoP
  split
  · have := div_two (tz_in a hp) (by grind) (by rw [hK]; grind) hs1 hd
    refine inQ_le this ?_
    rw [hK]
    grind
  · have := div_two (sl_in a hp) (by rw [hK]; grind) (by rw [hK]; grind) hs1 hd
    have := inQ_mul (p := 10) (a := 10) (by unfold inQ; grind) this
    refine inQ_le this ?_
    rw [hK]
    grind
variable {I : IM} {L : LM} {b : Nat}
theorem sle_get (hB : okB pl h w F H N) (hO : SolO I L b N pl h w F) {p : Nat} (hp : p < 13) : ((10 * sleL I L b (N + 2) (nI p) p (pl 0) (pl 1)).toInt : Rat) = (10 * (slP pl h w F N p / (6 * F * spR pl N 0))) * ((hbL L b).toInt : Rat) ∧ -9223372036854775807 ≤ (10 * sleL I L b (N + 2) (nI p) p (pl 0) (pl 1)).toInt := by
  have hx := sle_RI hB.1 hO hp
  have h1 := RI_mul RI_10 hx
  have h2 := inQ_mul (p := 10) (a := 10) (by unfold inQ; grind) (ex_sle hB hp)
  have e1 := RI_get h1 (inQ_le h2 (by grind))
  have e2 := RI_get (hei_RI hB.1 hO hp).2 (inQ_le (ex_hb hB) (by grind))
  have hs := sp_one hB.1 0
  have hF := hB.2.2.2.1
  refine ⟨?_, ?_⟩
  · rw [e1, e2]
    have n1 : spR pl N 0 ≠ 0 := by grind
    have n2 : F ≠ 0 := by grind
    grind
  · have : inQ ((10 * sleL I L b (N + 2) (nI p) p (pl 0) (pl 1)).toInt : Rat) ((200000000000000000 : Int) : Rat) := by
      rw [e1]
      refine inQ_le h2 ?_
      have z : ((200000000000000000 : Int) : Rat) = 200000000000000000 := rfl
      rw [z]
      grind
    have := in_ge this
    omega
/-- one side of a coupling, as a fraction -/
def eoL (I : IM) (L : LM) (b n : Nat) (p : Int32) (p' p0 p1 : Nat) (u : Int32) : Int64 := if u = 0 then heiL I L b n p p' p0 p1 else 10 * sleL I L b n p p' p0 p1
theorem eo_RF {L0 : LM} {c : Nat} (hB : okB pl h w F H N) (hO : SolO I L b N pl h w F) {p : Nat} (hp : p < 13) (u : Int32) : RF (beL L0 c (eoL I L b (N + 2) (nI p) p (pl 0) (pl 1) u) (hbL L b) c 0) (beL L0 c (eoL I L b (N + 2) (nI p) p (pl 0) (pl 1) u) (hbL L b) c 1) (eoP pl h w F N p u) ∧ (eoP pl h w F N p u).den ∣ (hbL L b).toInt.natAbs := by
  have hx := hei_get hB hO hp
  have hy := sle_get hB hO hp
  have g := in_ge (c := 15000000000000000) hx.2.1
  unfold eoL eoP
  by_cases c0 : u = 0
  · rw [if_pos c0, if_pos c0]
    exact ⟨be_ok (by omega) hx.2.2.1 (by omega) hx.1, den_dvd hx.2.2.1 hx.1⟩
  · rw [if_neg c0, if_neg c0]
    exact ⟨be_ok hy.2 hx.2.2.1 (by omega) hy.1, den_dvd hx.2.2.1 hy.1⟩
/-- integers for s0 times D -/
theorem so_X (hB : okB pl h w F H N) (hO : SolO I L b N pl h w F) {f : Int} (hf : F = (f : Rat)) : ∃ X : Nat, 0 < X ∧ (X : Rat) = DQ (spR pl N) N * spR pl N 0 ∧ (hbL L b).toInt = 6 * f * X := by
  have hD := so_D hB hO
  have e4 := hei_get hB hO (show 0 < 13 by decide)
  have e4 := e4.2.2.2.2
  have hs := sp_one hB.1 0
  refine ⟨spP pl N 0 * (L b 4).toInt.toNat, ?_, ?_, ?_⟩
  · have := spP_pos hB.1 0
    exact Nat.mul_pos (by omega) (by omega)
  · rw [Rat.natCast_mul]
    have : (((L b 4).toInt.toNat : Nat) : Rat) = ((L b 4).toInt : Rat) := by
      have e : ((L b 4).toInt.toNat : Int) = (L b 4).toInt := by omega
      rw [← e]
      rfl
    rw [this, hD.1]
    exact Rat.mul_comm _ _
  · have : ((hbL L b).toInt : Rat) = ((6 * f * (spP pl N 0 * (L b 4).toInt) : Int) : Rat) := by
      rw [e4, hf]
      simp only [Rat.intCast_mul]
      rw [hD.1]
      have e1 : ((6 : Int) : Rat) = 6 := rfl
      have e2 : ((spP pl N 0 : Int) : Rat) = spR pl N 0 := rfl
      rw [e1, e2]
      grind
    have := Rat.intCast_inj.mp this
    rw [this, Int.natCast_mul]
    have e : ((L b 4).toInt.toNat : Int) = (L b 4).toInt := by omega
    rw [e]
end CP
theorem cpl_ok {I J : IM} {L M Z : LM} {b c N N' : Nat} {pl pl' : Nat → Nat} {h w h' w' : Nat → Rat} {F : Rat} {f : Int} (hf : F = (f : Rat)) (hB : okB pl h w F 70 N) (hO : SolO I L b N pl h w F) (hB' : okB pl' h' w' F 70 N') (hO' : SolO J M c N' pl' h' w' F) {p : Nat} (hp : p < 13) (u : Int32) (hl : pl (N + 1) < p) (hr : p ≤ pl' 0)
    (r1 : RF (Z 71 0) (Z 71 1) (eoP pl h w F N p u)) (r2 : RF (Z 72 0) (Z 72 1) (eoP pl' h' w' F N' p u)) : RF (tkL Z 71 72 71 0) (tkL Z 71 72 71 1) (eoP pl h w F N p u - eoP pl' h' w' F N' p u) := by
  obtain ⟨X, x0, xe, xh⟩ := so_X hB hO hf
  obtain ⟨Y, y0, ye, yh⟩ := so_X hB' hO' hf
  have d1 := (eo_RF (L0 := Z) (c := 71) hB hO hp u).2
  have d2 := (eo_RF (L0 := Z) (c := 72) hB' hO' hp u).2
  have hF1 := hB.2.2.2.1
  have hF2 := hB.2.2.2.2.1
  have f1 : 1 ≤ f := by
    rw [hf] at hF1
    exact Rat.intCast_le_intCast.mp hF1
  have f2 : f ≤ 20 := by
    rw [hf] at hF2
    exact Rat.intCast_le_intCast.mp hF2
  have sx := D_span hB.1
  have sy := D_span hB'.1
  rw [← xe] at sx
  rw [← ye] at sy
  have sx := Rat.natCast_le_natCast.mp sx
  have sy := Rat.natCast_le_natCast.mp sy
  have hp1 := hB'.1.2.1
  have hxy : X * Y ≤ 6 ^ 11 := by
    have k1 : X * Y ≤ 6 ^ (pl (N + 1) - pl 0) * 6 ^ (pl' (N' + 1) - pl' 0) := Nat.mul_le_mul sx sy
    have k2 : 6 ^ (pl (N + 1) - pl 0) * 6 ^ (pl' (N' + 1) - pl' 0) = 6 ^ ((pl (N + 1) - pl 0) + (pl' (N' + 1) - pl' 0)) := (Nat.pow_add ..).symm
    have k3 : 6 ^ ((pl (N + 1) - pl 0) + (pl' (N' + 1) - pl' 0)) ≤ 6 ^ 11 := Nat.pow_le_pow_right (by decide) (by omega)
    omega
  have f3 : f.natAbs ≤ 20 := by omega
  have hDle : 6 * f.natAbs * (X * Y) ≤ 120 * 6 ^ 11 := Nat.mul_le_mul (by omega) hxy
  have hxyp : 0 < X * Y := Nat.mul_pos x0 y0
  have hDp : 0 < 6 * f.natAbs * (X * Y) := Nat.mul_pos (by omega) hxyp
  have e1 : (hbL L b).toInt.natAbs = 6 * f.natAbs * X := by
    rw [xh, Int.natAbs_mul, Int.natAbs_mul]
    rfl
  have e2 : (hbL M c).toInt.natAbs = 6 * f.natAbs * Y := by
    rw [yh, Int.natAbs_mul, Int.natAbs_mul]
    rfl
  have e11 : 120 * 6 ^ 11 = 43535646720 := by decide
  refine tk_ok r1 r2 hDp (by omega) ?_ ?_ ?_
  · rw [e1] at d1
    exact Nat.dvd_trans d1 ⟨Y, by grind⟩
  · rw [e2] at d2
    exact Nat.dvd_trans d2 ⟨X, by grind⟩
  · have b1 := eo_in hB hp u
    have b2 := eo_in hB' hp u
    have k := inQ_sub b1 b2
    have k2 : inQ ((6 * f.natAbs * (X * Y) : Nat) : Rat) 43535646720 := by
      have z1 : ((6 * f.natAbs * (X * Y) : Nat) : Rat) ≤ ((43535646720 : Nat) : Rat) := cast_le (by omega)
      have z2 : ((43535646720 : Nat) : Rat) = 43535646720 := rfl
      have z3 := p_ge (6 * f.natAbs * (X * Y))
      unfold inQ
      constructor <;> grind
    refine inQ_le (inQ_mul k k2) ?_
    grind
/-- SAG or GAP at a place in a STATE -/
def eoA (A : LA) (st fr to p : Nat) (u : Int32) : Rat := eoP (lyN (gsB A fr to) (aQ A) (aN A)) (lyQ (gsB A fr to) (hgt A st) (aN A)) (wCut A fr to) (stf A) (cntS (gsB A fr to) (aN A) - 2) p u
theorem gs_pl {A : LA} {fr to k : Nat} (hk : k < cntS (gsB A fr to) (aN A)) : fr ≤ lyN (gsB A fr to) (aQ A) (aN A) k ∧ lyN (gsB A fr to) (aQ A) (aN A) k < to := by
  obtain ⟨j, hj, h3, h4⟩ := cntS_onto (s := gsB A fr to) (i := k) (aN A) hk
  rw [← h4, lyN_at h3 (aN A) hj]
  exact of_decide_eq_true h3
