/-! margins go straight with heights and weights -/
theorem sQ_lin {f g e : Nat → Rat} {c : Rat} : ∀ n, sQ (fun k => (f k + c * g k) * e k) n = sQ (fun k => f k * e k) n + c * sQ (fun k => g k * e k) n
  | 0 => by simp only [sQ]; grind
  | n + 1 => by
    simp only [sQ]
    rw [sQ_lin n]
    grind
section LI
variable {x s h w g u T : Nat → Rat} {F c : Rat} {N : Nat}
theorem hanL_lin : hanL x (fun p => w p + c * u p) = hanL x w + c * hanL x u := by
  unfold hanL
  rw [sQ_lin]
  grind
theorem hanR_lin : hanR x (fun p => w p + c * u p) N = hanR x w N + c * hanR x u N := by
  unfold hanR
  rw [sQ_lin (e := fun p => tp (p - x (N + 1)))]
  grind
theorem rho_lin {j : Nat} : rhoQ x s (fun k => h k + c * g k) (fun p => w p + c * u p) F N j = rhoQ x s h w F N j + c * rhoQ x s g u F N j := by
  unfold rhoQ
  rw [hanL_lin, hanR_lin, sQ_lin (e := fun p => insQ x s j p)]
  unfold d2
  split <;> split <;> grind
theorem mom_lin {a : Nat} : momQ x s (fun k => h k + c * g k) (fun p => w p + c * u p) T F N a = momQ x s h w T F N a + c * momQ x s g u T F N a := by
  unfold momQ
  split
  · exact hanL_lin
  · split
    · exact hanR_lin
    · have e : sQ (fun j => gE s T a (j + 1) * rhoQ x s (fun k => h k + c * g k) (fun p => w p + c * u p) F N j) N = sQ (fun j => (rhoQ x s h w F N j + c * rhoQ x s g u F N j) * gE s T a (j + 1)) N := sQ_congr (fun j _ => by rw [rho_lin]; grind)
      have e1 : sQ (fun j => gE s T a (j + 1) * rhoQ x s h w F N j) N = sQ (fun j => rhoQ x s h w F N j * gE s T a (j + 1)) N := sQ_congr (fun j _ => by grind)
      have e2 : sQ (fun j => gE s T a (j + 1) * rhoQ x s g u F N j) N = sQ (fun j => rhoQ x s g u F N j * gE s T a (j + 1)) N := sQ_congr (fun j _ => by grind)
      rw [e, sQ_lin (e := fun j => gE s T a (j + 1)), e1, e2]
      grind
theorem ld_lin {i : Nat} : ldQ x s (fun k => h k + c * g k) (fun p => w p + c * u p) T F N i = ldQ x s h w T F N i + c * ldQ x s g u T F N i := by
  unfold ldQ
  have e : momQ x s (fun k => h k + c * g k) (fun p => w p + c * u p) T F N = fun a => momQ x s h w T F N a + c * momQ x s g u T F N a := funext fun a => mom_lin
  rw [e, dd_add (g := fun a => c * momQ x s g u T F N a), dd_mul, sQ_lin (e := fun p => hatQ x s N i p)]
  grind
theorem S_lin {r t : Nat → Rat} {n : Nat} {y : Rat} : SQ (fun k => r k + c * t k) x (fun p => w p + c * u p) n y = SQ r x w n y + c * SQ t x u n y := by
  unfold SQ
  rw [sQ_lin (e := fun k => cb (y - x k)), sQ_lin (e := fun p => cb (y - p))]
  grind
end LI
theorem tz_lin {pl : Nat → Nat} {h w g u : Nat → Rat} {F c p : Rat} {N : Nat} : tzP pl (fun k => h k + c * g k) (fun q => w q + c * u q) F N p = tzP pl h w F N p + c * tzP pl g u F N p := by
  have e : ∀ y, SP pl (fun k => h k + c * g k) (fun q => w q + c * u q) F N y = SP pl h w F N y + c * SP pl g u F N y := fun y => by
    show SQ (ldP pl (fun k => h k + c * g k) (fun q => w q + c * u q) F N) _ _ _ _ = _
    have e1 : ldP pl (fun k => h k + c * g k) (fun q => w q + c * u q) F N = fun i => ldP pl h w F N i + c * ldP pl g u F N i := funext fun i => ld_lin
    rw [e1]
    exact S_lin
  unfold tzP
  simp only [e]
  grind
theorem lyQ_lin {s : Nat → Bool} {f g : Nat → Rat} {c : Rat} : ∀ n, lyQ s (fun k => f k + c * g k) n = fun k => lyQ s f n k + c * lyQ s g n k
  | 0 => by
    funext k
    simp only [lyQ]
    grind
  | n + 1 => by
    have ih := lyQ_lin (s := s) (f := f) (g := g) (c := c) n
    funext k
    simp only [lyQ]
    by_cases e : s n = true
    · rw [if_pos e, if_pos e, if_pos e]
      by_cases k0 : k = cntS s n
      · simp only [if_pos k0]
      · simp only [if_neg k0]
        rw [ih]
    · rw [if_neg e, if_neg e, if_neg e, ih]
/-- the margin of a bearing: what must not be below 0 -/
def mgQ (s : Nat → Bool) (q : Nat → Nat) (hh w : Nat → Rat) (F : Rat) (n b : Nat) : Rat := if s b = true then DQ (spR (lyN s q n) (cntS s n - 2)) (cntS s n - 2) * ldS s q hh w F n (cntS s b) else DQ (spR (lyN s q n) (cntS s n - 2)) (cntS s n - 2) * (tzS s q hh w F n (q b) - 6 * F * spS s q n * hh b)
theorem mg_lin {s : Nat → Bool} {q : Nat → Nat} {hh w g u : Nat → Rat} {F c : Rat} {n b : Nat} : mgQ s q (fun k => hh k + c * g k) (fun p => w p + c * u p) F n b = mgQ s q hh w F n b + c * mgQ s q g u F n b := by
  unfold mgQ ldS tzS ldP
  rw [lyQ_lin, ld_lin, tz_lin]
  split <;> grind
section MG
variable {I : IM} {L : LM} {r n : Nat} {s : Nat → Bool} {q : Nat → Nat} {hh w : Nat → Rat} {F H : Rat}
theorem mg_RI (hq : incN q n) (h7 : n ≤ 7) (hS : RestS I L r n s q hh w F) (h2 : 2 ≤ cntS s n) {b : Nat} (hb : b < n) : RI (mrgL I L r (cntS s n) b (q b) (lyN s q n 0) (lyN s q n 1)) (mgQ s q hh w F n b) := by
  have hO := hS.2.2.2 h2
  have hP := isP_sel (s := s) hq h7 h2
  have e15 := hS.2.2.1 b hb
  unfold mrgL mgQ
  by_cases c : s b = true
  · rw [if_pos c] at e15
    have hlt := cntS_mono c n hb
    have hcl := cntS_le (s := s) n
    rw [if_pos c, e15, if_pos (nI_ge0 (by omega)), nI_clamp (by omega)]
    exact hO.2.1 (cntS s b) (by omega)
  · rw [if_neg c] at e15
    rw [if_neg c, e15, if_neg neg1_lt, hS.1.2.1 b hb]
    have hh14 := RI_32 (I (r + 14) b)
    rw [hS.1.2.2.1 b hb] at hh14
    have hx := hei_RI hP hO (hq.1 b hb)
    rw [show cntS s n - 2 + 2 = cntS s n by omega] at hx
    refine RI_eq (RI_sub hx.1 (RI_mul hh14 hx.2)) ?_
    grind
/-- margins fit -/
theorem mg_in (ok : okS q hh w F H n) (h2 : 2 ≤ cntS s n) {b : Nat} (hb : b < n) : inQ (mgQ s q hh w F n b) 9000000000000000000 := by
  have hB := okS_B (s := s) ok h2
  unfold mgQ
  by_cases c : s b = true
  · rw [if_pos c]
    have hlt := cntS_mono c n hb
    exact inQ_le (ex_push hB (by omega)) (by grind)
  · rw [if_neg c]
    have k1 := ex_hei1 hB (ok.2.1.1 b hb)
    have k2 := inQ_mul (ok.2.2.1 b hb) (ex_hb hB)
    have k3 := inQ_sub k1 k2
    have h9 := ok.2.2.2.2.2.2.2
    have k4 : DQ (spR (lyN s q n) (cntS s n - 2)) (cntS s n - 2) * (tzS s q hh w F n (q b) - 6 * F * spS s q n * hh b) = DQ (spR (lyN s q n) (cntS s n - 2)) (cntS s n - 2) * tzP (lyN s q n) (lyQ s hh n) w F (cntS s n - 2) (q b) - hh b * (6 * F * spR (lyN s q n) (cntS s n - 2) 0 * DQ (spR (lyN s q n) (cntS s n - 2)) (cntS s n - 2)) := by grind
    rw [k4]
    refine inQ_le k3 ?_
    grind
/-- a set lies where no margin is below 0 -/
theorem mg_lie (ok : okS q hh w F H n) (h2 : 2 ≤ cntS s n) : (∀ b, b < n → 0 ≤ mgQ s q hh w F n b) ↔ lieS s q hh w F n := by
  have hD := D_pos (okS_B (s := s) ok h2).1
  constructor
  · intro h
    refine ⟨h2, fun i hi => ?_, fun b hb hs => ?_⟩
    · obtain ⟨b, hb, h3, h4⟩ := cntS_onto (s := s) (i := i) n hi
      have := h b hb
      unfold mgQ at this
      rw [if_pos h3, h4, mul_nn hD] at this
      exact this
    · have := h b hb
      unfold mgQ at this
      rw [if_neg (by rw [hs]; decide), mul_nn hD] at this
      exact this
  · intro hl b hb
    unfold mgQ
    by_cases c : s b = true
    · rw [if_pos c, mul_nn hD]
      exact hl.2.1 _ (cntS_mono c n hb)
    · rw [if_neg c, mul_nn hD]
      exact hl.2.2 b hb (Bool.not_eq_true _ ▸ c)
end MG
/-- the sets in the class's order -/
def desL (n sz : Nat) : Nat → List Nat
  | 0 => []
  | c + 1 => if popN (2 ^ n - 1 - c) = sz then desL n sz c ++ [2 ^ n - 1 - c] else desL n sz c
def ordL (n : Nat) : Nat → List Nat
  | 0 => []
  | k + 1 => ordL n k ++ desL n (k + 2) (2 ^ n - 1)
theorem ord_ok : ∀ n, n ≤ 4 → (ordL n (n - 1)).length ≤ 11 ∧ (∀ j, j < (ordL n (n - 1)).length → 2 ≤ popN ((ordL n (n - 1)).getD j 0) ∧ (ordL n (n - 1)).getD j 0 < 2 ^ n) ∧ (∀ c, c < 2 ^ n → 2 ≤ popN c → ∃ j, j < (ordL n (n - 1)).length ∧ (ordL n (n - 1)).getD j 0 = c) ∧ (∀ j, j < (ordL n (n - 1)).length → ∀ i, i < j → popN ((ordL n (n - 1)).getD i 0) < popN ((ordL n (n - 1)).getD j 0) ∨ (popN ((ordL n (n - 1)).getD i 0) = popN ((ordL n (n - 1)).getD j 0) ∧ (ordL n (n - 1)).getD j 0 ≤ (ordL n (n - 1)).getD i 0)) := by
  have h : ∀ n, n < 5 → (ordL n (n - 1)).length ≤ 11 ∧ (∀ j, j < (ordL n (n - 1)).length → 2 ≤ popN ((ordL n (n - 1)).getD j 0) ∧ (ordL n (n - 1)).getD j 0 < 2 ^ n) ∧ (∀ c, c < 2 ^ n → 2 ≤ popN c → ∃ j, j < (ordL n (n - 1)).length ∧ (ordL n (n - 1)).getD j 0 = c) ∧ (∀ j, j < (ordL n (n - 1)).length → ∀ i, i < j → popN ((ordL n (n - 1)).getD i 0) < popN ((ordL n (n - 1)).getD j 0) ∨ (popN ((ordL n (n - 1)).getD i 0) = popN ((ordL n (n - 1)).getD j 0) ∧ (ordL n (n - 1)).getD j 0 ≤ (ordL n (n - 1)).getD i 0)) := by decide +kernel
  exact fun n hn => h n (by omega)
abbrev ordN (n j : Nat) : Nat := (ordL n (n - 1)).getD j 0
abbrev ordK (n : Nat) : Nat := (ordL n (n - 1)).length
/-- the first of the order that lies is the first set that lies -/
theorem ord_fir {n : Nat} {P : Nat → Prop} (h4 : n ≤ 4) {j : Nat} (hj : j < ordK n) (hP : P (ordN n j)) (hno : ∀ i, i < j → ¬ P (ordN n i)) : firC n P (ordN n j) := by
  obtain ⟨h1, h2, h3, h5⟩ := ord_ok n h4
  refine ⟨(h2 j hj).2, (h2 j hj).1, hP, fun d hd hd2 hPd => ?_⟩
  obtain ⟨i, hi, e⟩ := h3 d hd hd2
  have e : ordN n i = d := e
  rw [← e] at hPd ⊢
  rcases Nat.lt_trichotomy i j with c | c | c
  · exact absurd hPd (hno i c)
  · rw [c]
    exact Or.inr ⟨rfl, Nat.le_refl _⟩
  · exact h5 i hi j c
theorem ord_non {n : Nat} {P : Nat → Prop} (h4 : n ≤ 4) (hno : ∀ i, i < ordK n → ¬ P (ordN n i)) : nonC n P := fun d hd hd2 hPd => by
  obtain ⟨i, hi, e⟩ := (ord_ok n h4).2.2.1 d hd hd2
  have e : ordN n i = d := e
  rw [← e] at hPd
  exact hno i hi hPd
