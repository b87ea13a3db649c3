/-! loads of a beam; a shaft that goes through all; WHIRL's sums -/
section SB
variable {I : IM} {L : LM} {b N : Nat} {pl : Nat → Nat} {h w : Nat → Rat} {F H : Rat}
theorem so_D (hB : okB pl h w F H N) (hO : SolO I L b N pl h w F) : ((L b 4).toInt : Rat) = DQ (spR pl N) N ∧ 0 < (L b 4).toInt ∧ (L b 4).toInt ≤ 204472320 := by
  have e := RI_get hO.2.2.1 (inQ_le (ex_D hB) (by grind))
  refine ⟨e, int_lt 0 e (D_pos hB.1), ?_⟩
  have hi := (ex_D hB).2
  rw [← e] at hi
  have hi : ((L b 4).toInt : Rat) ≤ ((204472320 : Int) : Rat) := hi
  exact Rat.intCast_le_intCast.mp hi
theorem so_ld (hB : okB pl h w F H N) (hO : SolO I L b N pl h w F) {i : Nat} (hi : i < N + 2) : ((L (b + 3) i).toInt : Rat) = ldP pl h w F N i * ((L b 4).toInt : Rat) ∧ -30000000000000 ≤ (L (b + 3) i).toInt := by
  have hD := so_D hB hO
  have e := RI_get (hO.2.1 i hi) (inQ_le (ex_push hB hi) (by grind))
  have hx : inQ ((L (b + 3) i).toInt : Rat) ((30000000000000 : Int) : Rat) := by rw [e]; exact ex_push hB hi
  refine ⟨?_, in_ge hx⟩
  rw [e, hD.1]
  exact Rat.mul_comm _ _
theorem ans_ld (hB : okB pl h w F H N) (hO : SolO I L b N pl h w F) {i : Nat} (hi : i < N + 2) (c : Nat) (v : Int32) : (if v = 0 then beL L c (L (b + 3) i) (L b 4) c 0 else beL L c (L (b + 3) i) (L b 4) c 1) = ansL (ldP pl h w F N i) v := by
  have hD := so_D hB hO
  have hp := so_ld hB hO hi
  exact RF_ans (be_ok (by omega) hD.2.1 (by omega) hp.1) v
theorem SolO_fr {I' : IM} {L' : LM} (h0 : SolO I L b N pl h w F) (f : ∀ a k, a = b + 1 ∨ a = b + 2 → I' a k = I a k) (g : ∀ a k, b ≤ a → a ≤ b + 11 → L' a k = L a k) : SolO I' L' b N pl h w F := by
  obtain ⟨⟨c1, c2, c3, c4, c5, c6, c7⟩, d1, d2, d3⟩ := h0
  refine ⟨⟨fun k hk => ?_, fun k hk => ?_, ?_, ?_, ?_, fun p hp => ?_, fun p hp => ?_⟩, fun i hi => ?_, ?_, ?_⟩
  · rw [f _ _ (by omega)]; exact c1 k hk
  · rw [f _ _ (by omega)]; exact c2 k hk
  · rw [g _ _ (by omega) (by omega)]; exact c3
  · rw [g _ _ (by omega) (by omega)]; exact c4
  · rw [g _ _ (by omega) (by omega)]; exact c5
  · rw [g _ _ (by omega) (by omega)]; exact c6 p hp
  · rw [g _ _ (by omega) (by omega)]; exact c7 p hp
  · rw [g _ _ (by omega) (by omega)]; exact d1 i hi
  · rw [g _ _ (by omega) (by omega)]; exact d2
  · rw [g _ _ (by omega) (by omega)]; exact d3
end SB
theorem wCut_in {A : LA} (a : okA A) (fr to : Nat) : ∀ p, p < 13 → 0 ≤ wCut A fr to p ∧ wCut A fr to p ≤ 50 := fun p hp => by
  unfold wCut
  split
  · exact (ok_w a).1 p hp
  · grind
theorem okA_C {A : LA} (a : okA A) {s : Nat} (hs : s < 4) (fr to : Nat) : okS (aQ A) (hgt A s) (wCut A fr to) (stf A) 70 (aN A) := by
  have h := okA_S a hs
  exact ⟨h.1, h.2.1, h.2.2.1, wCut_in a fr to, h.2.2.2.2⟩
theorem gs_all {A : LA} (a : okA A) : ∀ k, k ≤ aN A → cntS (gsB A 0 13) k = k
  | 0, _ => rfl
  | k + 1, hk => by
    simp only [cntS]
    have h := a.2.1.1 k (by omega)
    have hg : gsB A 0 13 k = true := decide_eq_true ⟨Nat.zero_le _, h⟩
    rw [if_pos hg, gs_all a k (by omega)]
theorem CRest_Bm {I I' : IM} {L L' : LM} {A : LA} {b : Nat} (h : CRest I L A) (hb : b = 21 ∨ b = 33) (f : frBm b I I') (g : frLb b L L') : CRest I' L' A := CRest_fr h (fun a k h1 h2 => f a k (by omega) (by omega) (by omega)) (fun k hk => f 0 k (by omega) (by omega) (by omega)) (fun a k h1 h2 => g a k (by omega))
theorem frB_Bm {I I' : IM} {b : Nat} (hb : b = 21 ∨ b = 33) (f : frBm b I I') : frB I I' := fun a k h1 h2 => f a k (by omega) (by omega) (by omega)
theorem frBL_Bm {L L' : LM} {b : Nat} (hb : b = 21 ∨ b = 33) (g : frLb b L L') : frBL L L' := fun a k h1 => g a k (by omega)
/-- LOAD of a bearing, all standing as told -/
abbrev gldA (A : LA) (st fr to i : Nat) : Rat := ldP (lyN (gsB A fr to) (aQ A) (aN A)) (lyQ (gsB A fr to) (hgt A st) (aN A)) (wCut A fr to) (stf A) (cntS (gsB A fr to) (aN A) - 2) i
/-- the set of all -/
def allS (_ : Nat) : Bool := true
theorem all_c : ∀ k, cntS allS k = k
  | 0 => rfl
  | k + 1 => by
    simp only [cntS]
    rw [if_pos (show allS k = true from rfl), all_c k]
abbrev aldA (A : LA) (hh w : Nat → Rat) (i : Nat) : Rat := ldP (lyN allS (aQ A) (aN A)) (lyQ allS hh (aN A)) w (stf A) (aN A - 2) i
abbrev atzA (A : LA) (hh w : Nat → Rat) (p : Rat) : Rat := tzP (lyN allS (aQ A) (aN A)) (lyQ allS hh (aN A)) w (stf A) (aN A - 2) p / (6 * stf A * spR (lyN allS (aQ A) (aN A)) (aN A - 2) 0)
def oneH (b k : Nat) : Rat := if k = b then 1 else 0
def zerH (_ : Nat) : Rat := 0
theorem all_ok {A : LA} (a : okA A) {hh : Nat → Rat} {H : Rat} (hH : ∀ k, inQ (hh k) H) (h0 : 0 ≤ H) (h9 : H ≤ 90) (fr to : Nat) (h2 : 2 ≤ aN A) : okB (lyN allS (aQ A) (aN A)) (lyQ allS hh (aN A)) (wCut A fr to) (stf A) H (aN A - 2) := by
  have hw := ok_w a
  have h := okS_B (s := allS) (q := aQ A) (hh := hh) (w := wCut A fr to) (F := stf A) (H := H) (n := aN A) ⟨by have := a.1; omega, a.2.1, fun b _ => hH b, wCut_in a fr to, hw.2.1, hw.2.2, h0, h9⟩ (by rw [all_c]; exact h2)
  rwa [all_c] at h
theorem bm_all {I : IM} {L0 : LM} {A : LA} {W : Nat → Int32} {fr to : Nat} {hh : Nat → Rat} {b : Nat} (a : okA A) (h : BmI I b allS (aQ A) hh (aN A)) (h2 : 2 ≤ aN A) (hw : carW W (nI fr) (nI to) (wCut A fr to)) (hf : RI (L0 b 5) (stf A)) : SolO I (solL I (carL L0 b 13 (carS W (nI fr) (nI to)) (carC W (nI fr) (nI to)) (carA W (nI fr) (nI to) 13) (carM W (nI fr) (nI to) 13)) b (aN A) (lyN allS (aQ A) (aN A))) b (aN A - 2) (lyN allS (aQ A) (aN A)) (lyQ allS hh (aN A)) (wCut A fr to) (stf A) := by
  have h6 := a.1
  have c := all_c (aN A)
  have hS := bm_sol (F := stf A) (L0 := L0) h a.2.1 (by omega) (by rw [c]; exact h2) hw hf
  have := SolO_of (isP_sel a.2.1 (by omega) (by rw [c]; exact h2)) hS
  rw [show cntS allS (aN A) - 2 + 2 = aN A by omega, c] at this
  exact this
theorem RI_1000' : RI (-1000) (-1000) := RI_1000
/-- depths in thousandths -/
def depQ (q : Rat) : Int64 := Int64.ofInt (cutQ (-1000 * q))
def whO (W : Nat → Int32) (y : Nat → Int64) : Nat → Int64
  | 0 => 0
  | k + 1 => if 0 < W k then whO W y k + (W k).toInt64 * y k else whO W y k
def whT (W : Nat → Int32) (y : Nat → Int64) : Nat → Int64
  | 0 => 0
  | k + 1 => if 0 < W k then whT W y k + (W k).toInt64 * y k * y k else whT W y k
def whA (W : Nat → Int32) (y : Nat → Int64) : Int32 := (cutL (1000000 * whO W y 13) (whT W y 13)).toInt32
theorem cut_dep {x z : Int64} {q : Rat} (hx : (x.toInt : Rat) = q * (z.toInt : Rat)) (hz : 0 < z.toInt) (hb : inQ (x.toInt : Rat) 9000000000000000) : cutL (-1000 * x) z = depQ q := by
  have e1 : ((-1000 * x).toInt : Rat) = -1000 * (x.toInt : Rat) := RI_get (RI_mul RI_1000 (RI_64 x)) (by
    have := inQ_mul (p := -1000) (a := 1000) (by unfold inQ; grind) hb
    refine inQ_le this ?_
    grind)
  have hne : ¬ z = 0 := fun e => by
    rw [e, zL] at hz
    omega
  unfold cutL depQ
  rw [if_neg hne]
  apply Int64.toInt_inj.mp
  have hr : ((-1000 * x).toInt : Rat) = (-1000 * q) * (z.toInt : Rat) := by
    rw [e1, hx]
    grind
  have hc := cut_rat hz hr
  rw [Int64.toInt_div_of_ne_right _ _ (fun e => by
    rw [e] at hz
    exact absurd hz (by decide)), hc]
  have hlt := Int64.toInt_lt (-1000 * x)
  have hle := Int64.le_toInt (-1000 * x)
  have hab : ((-1000 * x).toInt.tdiv z.toInt).natAbs ≤ (-1000 * x).toInt.natAbs := by
    rw [Int.natAbs_tdiv]
    exact Nat.div_le_self _ _
  have hlo : -9223372036854775808 < (-1000 * x).toInt := by
    have : inQ ((-1000 * x).toInt : Rat) ((9000000000000000000 : Int) : Rat) := by
      rw [e1]
      have := inQ_mul (p := -1000) (a := 1000) (by unfold inQ; grind) hb
      exact inQ_le this (by
        have z : ((9000000000000000000 : Int) : Rat) = 9000000000000000000 := rfl
        rw [z]
        grind)
    have := in_ge this
    omega
  rw [hc] at hab
  rw [Int64.toInt_ofInt_of_le (by omega) (by omega)]
