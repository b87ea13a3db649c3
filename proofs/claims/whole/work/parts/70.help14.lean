/-! fits, run; a jack: one bearing more -/
def LH (I : IM) (lo hi : Int) : Prop := (I 0 11).toInt = lo ∧ (I 0 12).toInt = hi ∧ 0 ≤ lo ∧ lo ≤ 600 ∧ 0 ≤ hi ∧ hi ≤ 600
theorem LH_K {I I' : IM} {lo hi : Int} (h : LH I lo hi) (f : frK I I') : LH I' lo hi := by
  unfold LH at *
  rw [f 0 11 (by omega) (by omega), f 0 12 (by omega) (by omega)]
  exact h
theorem wb_lh {I : IM} {L : LM} {A : LA} {st : Nat} {s : Nat → Bool} {lo hi : Int} (a : okA A) (hst : st < 4) (hS : RestS I L 45 (aN A) s (aQ A) (hgt A st) (wgt A) (stf A)) (h2 : 2 ≤ cntS s (aN A)) (h : LH I lo hi) : wbB I L (aN A) = true ↔ wbS A st s lo hi := by
  have e := wb_ok a hst hS h2 (by rw [h.1]; exact ⟨h.2.2.1, h.2.2.2.1⟩) (by rw [h.2.1]; exact h.2.2.2.2)
  rw [h.1, h.2.1] at e
  exact e
theorem fit_no {A : LA} {lo hi : Int} {g : Nat → Bool} {k s : Nat} (hs : s < k) (hg : g s = true) (hn : nonC (aN A) (lieC (aN A) (aQ A) (hgt A s) (wgt A) (stf A))) : ¬ fitP A lo hi g k := fun h => by
  obtain ⟨c, hc, _⟩ := h s hs hg
  exact fir_non hc hn
theorem fit_no2 {A : LA} {lo hi : Int} {g : Nat → Bool} {k s c : Nat} (hs : s < k) (hg : g s = true) (hc : firC (aN A) (lieC (aN A) (aQ A) (hgt A s) (wgt A) (stf A)) c) (hw : ¬ wbS A s (setA A c) lo hi) : ¬ fitP A lo hi g k := fun h => by
  obtain ⟨d, hd, hw2⟩ := h s hs hg
  rw [fir_u hd hc] at hw2
  exact hw hw2
theorem fit_s {A : LA} {lo hi : Int} {g : Nat → Bool} {k : Nat} (h : fitP A lo hi g k) (hk : g k = true → ∃ c, firC (aN A) (lieC (aN A) (aQ A) (hgt A k) (wgt A) (stf A)) c ∧ wbS A k (setA A c) lo hi) : fitP A lo hi g (k + 1) := fun s hs hg => by
  by_cases e : s = k
  · subst e
    exact hk hg
  · exact h s (by omega) hg
def lessB (I : IM) (hr : Nat → Int32) (b : Nat) : Bool := decide (wearO (I 3 b) (I 4 b + hr b) < I 3 b)
theorem nI_u (k : Nat) : nI k + 1 = nI (k + 1) := nI_1 k
def RunP (sh : Sh) (I : IM) (L : LM) (R : RM) (A : LA) (v : Int32) : PPost := fun ret sh' I' L' R' => sh' = sh ∧ R' = R ∧ frBL L L' ∧ ifA (isW v 1 1000) (rsA A 0 (fun c => ret = some (.int (nI (cntS (lessB I (hrA A (setA A c) v)) (aN A)))) ∧ I' 0 9 = -1 ∧ I' 0 14 = 0 ∧ (∀ a k, (a < 21 ∨ 60 < a) → (a ≠ 0 ∨ (k ≠ 9 ∧ k ≠ 10 ∧ k ≠ 14)) → I' a k = runI I (hrA A (setA A c) v) (aN A) a k)) (ret = some (.int (-2)) ∧ frB I I' ∧ CRest I' L' A)) (ret = some (.int (-1)) ∧ frB I I' ∧ CRest I' L' A)
/-- how many are below p -/
def cntN (f : Nat → Nat) (p : Nat) : Nat → Nat
  | 0 => 0
  | k + 1 => cntN f p k + (if f k < p then 1 else 0)
theorem cntN_le {f : Nat → Nat} {p : Nat} : ∀ n, cntN f p n ≤ n
  | 0 => Nat.le_refl _
  | n + 1 => by
    have := cntN_le (f := f) (p := p) n
    simp only [cntN]
    split <;> omega
theorem cntN_inc {q : Nat → Nat} {n p : Nat} (h : incN q n) : ∀ k, k ≤ n → ∀ j, j < k → (q j < p ↔ j < cntN q p k)
  | 0, _, j, hj => by omega
  | k + 1, hk, j, hj => by
    have ih := cntN_inc (p := p) h k (by omega)
    have hle := cntN_le (f := q) (p := p) k
    have hall : q k < p → cntN q p k = k := fun hq => by
      rcases Nat.lt_or_ge (cntN q p k) k with c | c
      · have := (ih (cntN q p k) c)
        have := incN_l h c (by omega)
        omega
      · omega
    simp only [cntN]
    by_cases e : j = k
    · subst e
      by_cases c : q j < p
      · rw [if_pos c, hall c]
        exact ⟨fun _ => by omega, fun _ => c⟩
      · rw [if_neg c]
        exact ⟨fun d => absurd d c, fun d => by omega⟩
    · have := ih j (by omega)
      by_cases c : q k < p
      · rw [if_pos c, hall c]
        have := incN_l h (show j < k by omega) (by omega)
        exact ⟨fun _ => by omega, fun _ => by omega⟩
      · rw [if_neg c]
        exact this
theorem cntL_N {f : Nat → Int32} {q : Nat → Nat} {p : Nat} (hp : p < 13) : ∀ n, (∀ k, k < n → f k = nI (q k)) → (∀ k, k < n → q k < 13) → cntL f (nI p) n = cntN q p n
  | 0, _, _ => rfl
  | n + 1, h, h13 => by
    simp only [cntL, cntN]
    rw [cntL_N hp n (fun k hk => h k (by omega)) (fun k hk => h13 k (by omega)), h n (by omega)]
    have := h13 n (by omega)
    have e : (nI (q n) < nI p) = (q n < p) := propext (nI_ltI (by omega) (by omega))
    simp only [e]
/-- one more, at m -/
def insG {α : Type} (f : Nat → α) (m : Nat) (x : α) (k : Nat) : α := if k < m then f k else if k = m then x else f (k - 1)
theorem insG_lt {α : Type} {f : Nat → α} {m k : Nat} {x : α} (h : k < m) : insG f m x k = f k := if_pos h
theorem insG_m {α : Type} {f : Nat → α} {m : Nat} {x : α} : insG f m x m = x := by
  unfold insG
  rw [if_neg (Nat.lt_irrefl m), if_pos rfl]
theorem insG_gt {α : Type} {f : Nat → α} {m k : Nat} {x : α} (h : m < k) : insG f m x k = f (k - 1) := by
  unfold insG
  rw [if_neg (by omega), if_neg (by omega)]
abbrev jkM (A : LA) (p : Nat) : Nat := cntN (aQ A) p (aN A)
abbrev jkQ (A : LA) (p : Nat) : Nat → Nat := insG (aQ A) (jkM A p) p
abbrev jkH (A : LA) (st p : Nat) (v : Int) : Nat → Rat := insG (hgt A st) (jkM A p) (v : Rat)
theorem jk_ok {A : LA} (a : okA A) {st p : Nat} {v : Int} (hst : st < 4) (hp : p < 13) (hno : ∀ k, k < aN A → aQ A k ≠ p) (hv : -90 ≤ v ∧ v ≤ 90) : okS (jkQ A p) (jkH A st p v) (wgt A) (stf A) 90 (aN A + 1) := by
  have hw := ok_w a
  have hm : jkM A p ≤ aN A := cntN_le (f := aQ A) (p := p) (aN A)
  have hc : ∀ j, j < aN A → (aQ A j < p ↔ j < jkM A p) := fun j hj => cntN_inc (p := p) a.2.1 (aN A) (Nat.le_refl _) j hj
  refine ⟨by have := a.1; omega, ⟨fun k hk => ?_, fun k hk => ?_⟩, fun b hb => ?_, hw.1, hw.2.1, hw.2.2, by grind, by grind⟩
  · unfold jkQ
    rcases Nat.lt_trichotomy k (jkM A p) with c | c | c
    · rw [insG_lt c]
      exact a.2.1.1 k (by omega)
    · rw [c, insG_m]
      exact hp
    · rw [insG_gt c]
      exact a.2.1.1 (k - 1) (by omega)
  · unfold jkQ
    rcases Nat.lt_trichotomy (k + 1) (jkM A p) with c | c | c
    · rw [insG_lt c, insG_lt (by omega)]
      exact a.2.1.2 k (by omega)
    · rw [c, insG_m, insG_lt (by omega)]
      exact (hc k (by omega)).mpr (by omega)
    · rw [insG_gt c, show k + 1 - 1 = k from rfl]
      by_cases e : k = jkM A p
      · rw [e, insG_m]
        have h1 := hc (jkM A p) (by omega)
        have h2 := hno (jkM A p) (by omega)
        have : ¬ aQ A (jkM A p) < p := fun d => by have := h1.mp d; omega
        omega
      · rw [insG_gt (by omega)]
        have := a.2.1.2 (k - 1) (by omega)
        rw [show k - 1 + 1 = k by omega] at this
        exact this
  · unfold jkH
    have hg : ∀ k, k < aN A → inQ (hgt A st k) 90 := fun k hk => by
      have h := hg_in a hst hk
      exact int_inQ (c := 90) (by omega) (by omega)
    rcases Nat.lt_trichotomy b (jkM A p) with c | c | c
    · rw [insG_lt c]
      exact hg b (by omega)
    · rw [c, insG_m]
      exact int_inQ (c := 90) (by omega) (by omega)
    · rw [insG_gt c]
      exact hg (b - 1) (by omega)
/-- what a bearing carries -/
def qLdG (s : Nat → Bool) (q : Nat → Nat) (hh w : Nat → Rat) (F : Rat) (n b : Nat) : Rat := if s b = true then ldS s q hh w F n (cntS s b) else 0
section GE
variable {I : IM} {L : LM} {r n : Nat} {s : Nat → Bool} {q : Nat → Nat} {hh w : Nat → Rat} {F H : Rat}
theorem rg_D (ok : okS q hh w F H n) (hS : RestS I L r n s q hh w F) (h2 : 2 ≤ cntS s n) : ((L (r + 1) 4).toInt : Rat) = DQ (spR (lyN s q n) (cntS s n - 2)) (cntS s n - 2) ∧ 0 < (L (r + 1) 4).toInt ∧ (L (r + 1) 4).toInt ≤ 204472320 := by
  have e := bl_ok ok hS h2
  have hp := D_pos (okS_B (s := s) ok h2).1
  have hi := ex_D (okS_B (s := s) ok h2)
  refine ⟨e, int_lt 0 e hp, ?_⟩
  have h := hi.2
  rw [← e] at h
  have h : ((L (r + 1) 4).toInt : Rat) ≤ ((204472320 : Int) : Rat) := h
  exact Rat.intCast_le_intCast.mp h
theorem rg_psh (ok : okS q hh w F H n) (hS : RestS I L r n s q hh w F) (h2 : 2 ≤ cntS s n) {b : Nat} (hb : b < n) : ((pshV I L r b).toInt : Rat) = qLdG s q hh w F n b * ((L (r + 1) 4).toInt : Rat) ∧ -30000000000000 ≤ (pshV I L r b).toInt ∧ (pshV I L r b).toInt ≤ 30000000000000 := by
  have hD := rg_D ok hS h2
  have e15 := hS.2.2.1 b hb
  unfold pshV qLdG
  by_cases c : s b = true
  · rw [if_pos c] at e15
    have hlt := cntS_mono c n hb
    have h7 := ok.1
    have hcl := cntS_le (s := s) n
    rw [if_pos c, e15, if_pos (nI_ge0 (by omega)), nI_clamp (by omega)]
    have e := ps_ok ok hS h2 hlt
    have e : ((L (r + 1 + 3) (cntS s b)).toInt : Rat) = _ := e
    have hi := ex_push (okS_B (s := s) ok h2) (i := cntS s b) (by omega)
    have hi2 : inQ ((L (r + 1 + 3) (cntS s b)).toInt : Rat) ((30000000000000 : Int) : Rat) := by rw [e]; exact hi
    refine ⟨?_, ?_, ?_⟩
    · rw [e, hD.1]
      exact Rat.mul_comm _ _
    · exact in_ge hi2
    · exact Rat.intCast_le_intCast.mp hi2.2
  · rw [if_neg c] at e15
    rw [if_neg c, e15, if_neg neg1_lt]
    refine ⟨?_, by decide, by decide⟩
    rw [zL]
    have : ((0 : Int) : Rat) = 0 := rfl
    rw [this]
    grind
theorem ans_G (ok : okS q hh w F H n) (hS : RestS I L r n s q hh w F) (h2 : 2 ≤ cntS s n) {b : Nat} (hb : b < n) (c : Nat) (v : Int32) : (if v = 0 then beL L c (pshV I L r b) (L (r + 1) 4) c 0 else beL L c (pshV I L r b) (L (r + 1) 4) c 1) = ansL (qLdG s q hh w F n b) v := by
  have hD := rg_D ok hS h2
  have hp := rg_psh ok hS h2 hb
  exact RF_ans (be_ok (by omega) hD.2.1 (by omega) hp.1) v
end GE
theorem srch_Q {f : Nat → Int32} {q : Nat → Nat} {p n : Nat} (hp : p < 13) (hf : ∀ k, k < n → f k = nI (q k)) (hq : ∀ k, k < n → q k < 13) : (srch f (nI p) n).isNone = true ↔ ∀ k, k < n → q k ≠ p := by
  constructor
  · intro h k hk e
    have := srch_none (Option.isNone_iff_eq_none.mp h) k hk
    rw [hf k hk, e] at this
    exact this rfl
  · intro h
    cases e : srch f (nI p) n with
    | none => rfl
    | some i =>
      have := srch_some e
      rw [hf i this.1] at this
      have e2 := (nI_eq (by have := hq i this.1; omega) (by omega)).mp this.2
      exact absurd e2 (h i this.1)
