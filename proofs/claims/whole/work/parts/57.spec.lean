/-! SETS of bearings: what is chosen, whether it lies, which set is the first -/
def lyQ (s : Nat → Bool) (f : Nat → Rat) : Nat → Nat → Rat
  | 0 => fun _ => 0
  | b + 1 => if s b = true then (fun k => if k = cntS s b then f b else lyQ s f b k) else lyQ s f b
theorem cntS_mono {s : Nat → Bool} {b : Nat} (hb : s b = true) : ∀ n, b < n → cntS s b < cntS s n
  | 0, h => by omega
  | n + 1, h => by
    simp only [cntS]
    by_cases e : b = n
    · subst e
      rw [if_pos hb]
      omega
    · have := cntS_mono hb n (by omega)
      split <;> omega
theorem cntS_mono2 {s : Nat → Bool} {b : Nat} : ∀ n, b ≤ n → cntS s b ≤ cntS s n
  | 0, h => by
    have : b = 0 := by omega
    subst this
    exact Nat.le_refl _
  | n + 1, h => by
    by_cases e : b = n + 1
    · subst e
      exact Nat.le_refl _
    · have := cntS_mono2 (s := s) (b := b) n (by omega)
      simp only [cntS]
      split <;> omega
theorem lyN_at {s : Nat → Bool} {f : Nat → Nat} {b : Nat} (hb : s b = true) : ∀ n, b < n → lyN s f n (cntS s b) = f b
  | 0, h => by omega
  | n + 1, h => by
    by_cases e : b = n
    · subst e
      simp only [lyN, if_pos hb, if_true]
    · have ih := lyN_at (f := f) hb n (by omega)
      have hm := cntS_mono hb n (by omega)
      simp only [lyN]
      split
      · simp only [if_neg (show ¬ cntS s b = cntS s n by omega)]
        exact ih
      · exact ih
theorem lyQ_at {s : Nat → Bool} {f : Nat → Rat} {b : Nat} (hb : s b = true) : ∀ n, b < n → lyQ s f n (cntS s b) = f b
  | 0, h => by omega
  | n + 1, h => by
    by_cases e : b = n
    · subst e
      simp only [lyQ, if_pos hb, if_true]
    · have ih := lyQ_at (f := f) hb n (by omega)
      have hm := cntS_mono hb n (by omega)
      simp only [lyQ]
      split
      · simp only [if_neg (show ¬ cntS s b = cntS s n by omega)]
        exact ih
      · exact ih
theorem lyP_at {s : Nat → Bool} {f g : Nat → Int32} {b : Nat} (hb : s b = true) : ∀ n, b < n → lyP s f g n (cntS s b) = f b
  | 0, h => by omega
  | n + 1, h => by
    by_cases e : b = n
    · subst e
      simp only [lyP, if_pos hb, upd, if_true]
    · have ih := lyP_at (f := f) (g := g) hb n (by omega)
      have hm := cntS_mono hb n (by omega)
      simp only [lyP]
      split
      · simp only [upd]
        rw [if_neg (by omega)]
        exact ih
      · exact ih
theorem lyT_at {s : Nat → Bool} {g : Nat → Int32} {b : Nat} : ∀ n, b < n → lyT s g n b = if s b = true then nI (cntS s b) else -1
  | 0, h => by omega
  | n + 1, h => by
    by_cases e : b = n
    · subst e
      simp only [lyT]
      split <;> simp [upd]
    · have ih := lyT_at (s := s) (g := g) n (show b < n by omega)
      simp only [lyT]
      split <;> simp only [upd, if_neg e] <;> exact ih
theorem cntS_onto {s : Nat → Bool} {i : Nat} : ∀ n, i < cntS s n → ∃ b, b < n ∧ s b = true ∧ cntS s b = i
  | 0, h => absurd h (Nat.not_lt_zero _)
  | n + 1, h => by
    simp only [cntS] at h
    by_cases c : s n = true
    · rw [if_pos c] at h
      by_cases e : i = cntS s n
      · exact ⟨n, by omega, c, e.symm⟩
      · obtain ⟨b, h1, h2⟩ := cntS_onto n (show i < cntS s n by omega)
        exact ⟨b, by omega, h2⟩
    · rw [if_neg c] at h
      obtain ⟨b, h1, h2⟩ := cntS_onto n h
      exact ⟨b, by omega, h2⟩
theorem lyQ_in {s : Nat → Bool} {f : Nat → Rat} {H : Rat} (hH : 0 ≤ H) : ∀ n, (∀ b, b < n → inQ (f b) H) → ∀ k, inQ (lyQ s f n k) H
  | 0, _, k => inQ_0 hH
  | n + 1, h, k => by
    have ih := lyQ_in (s := s) hH n (fun b hb => h b (by omega)) k
    simp only [lyQ]
    split
    · show inQ (if k = cntS s n then f n else lyQ s f n k) H
      split
      · exact h n (by omega)
      · exact ih
    · exact ih
theorem cntS_congr {s t : Nat → Bool} : ∀ n, (∀ b, b < n → s b = t b) → cntS s n = cntS t n
  | 0, _ => rfl
  | n + 1, h => by
    simp only [cntS, h n (by omega), cntS_congr n (fun b hb => h b (by omega))]
theorem lyN_congr {s t : Nat → Bool} {f : Nat → Nat} : ∀ n, (∀ b, b < n → s b = t b) → lyN s f n = lyN t f n
  | 0, _ => rfl
  | n + 1, h => by
    simp only [lyN, h n (by omega), lyN_congr n (fun b hb => h b (by omega)), cntS_congr n (fun b hb => h b (by omega))]
theorem lyQ_congr {s t : Nat → Bool} {f : Nat → Rat} : ∀ n, (∀ b, b < n → s b = t b) → lyQ s f n = lyQ t f n
  | 0, _ => rfl
  | n + 1, h => by
    simp only [lyQ, h n (by omega), lyQ_congr n (fun b hb => h b (by omega)), cntS_congr n (fun b hb => h b (by omega))]
theorem lyQ_f {s : Nat → Bool} {f g : Nat → Rat} : ∀ n, (∀ b, b < n → f b = g b) → lyQ s f n = lyQ s g n
  | 0, _ => rfl
  | n + 1, h => by
    simp only [lyQ, h n (by omega), lyQ_f n (fun b hb => h b (by omega))]
theorem lyN_f {s : Nat → Bool} {f g : Nat → Nat} : ∀ n, (∀ b, b < n → f b = g b) → lyN s f n = lyN s g n
  | 0, _ => rfl
  | n + 1, h => by
    simp only [lyN, h n (by omega), lyN_f n (fun b hb => h b (by omega))]
/-- bearings by places -/
def incN (q : Nat → Nat) (n : Nat) : Prop := (∀ k, k < n → q k < 13) ∧ ∀ k, k + 1 < n → q k < q (k + 1)
theorem incN_lt {q : Nat → Nat} {n i : Nat} (h : incN q n) : ∀ d, i + d + 1 < n → q i < q (i + d + 1)
  | 0, hd => h.2 i hd
  | d + 1, hd => by
    have := incN_lt (i := i) h d (by omega)
    have := h.2 (i + d + 1) (by omega)
    show q i < q (i + d + 1 + 1)
    omega
theorem incN_l {q : Nat → Nat} {n i j : Nat} (h : incN q n) (h1 : i < j) (h2 : j < n) : q i < q j := by
  obtain ⟨d, rfl⟩ : ∃ d, j = i + d + 1 := ⟨j - i - 1, by omega⟩
  exact incN_lt h d h2
theorem cntS_inj {s : Nat → Bool} {a b : Nat} (ha : s a = true) (hb : s b = true) (h : cntS s a < cntS s b) : a < b := by
  rcases Nat.lt_or_ge a b with c | c
  · exact c
  · have := cntS_mono2 (s := s) a c
    omega
theorem isP_sel {q : Nat → Nat} {s : Nat → Bool} {n : Nat} (h : incN q n) (h7 : n ≤ 7) (h2 : 2 ≤ cntS s n) : isP (lyN s q n) (cntS s n - 2) := by
  have hle := cntS_le (s := s) n
  refine ⟨by omega, ?_, fun k hk => ?_⟩
  · obtain ⟨b, hb, h3, h4⟩ := cntS_onto (s := s) (i := cntS s n - 2 + 1) n (by omega)
    rw [← h4, lyN_at h3 n hb]
    have := h.1 b hb
    omega
  · obtain ⟨a, ha, h3, h4⟩ := cntS_onto (s := s) (i := k) n (by omega)
    obtain ⟨b, hb, h5, h6⟩ := cntS_onto (s := s) (i := k + 1) n (by omega)
    have e1 : lyN s q n k = q a := by rw [← h4, lyN_at h3 n ha]
    have e2 : lyN s q n (k + 1) = q b := by rw [← h6, lyN_at h5 n hb]
    rw [e1, e2]
    exact incN_l h (cntS_inj h3 h5 (by omega)) hb
/-- a set lies: no LOAD below 0, the others not above it -/
abbrev ldS (s : Nat → Bool) (q : Nat → Nat) (hh w : Nat → Rat) (F : Rat) (n i : Nat) : Rat := ldP (lyN s q n) (lyQ s hh n) w F (cntS s n - 2) i
abbrev tzS (s : Nat → Bool) (q : Nat → Nat) (hh w : Nat → Rat) (F : Rat) (n : Nat) (p : Rat) : Rat := tzP (lyN s q n) (lyQ s hh n) w F (cntS s n - 2) p
abbrev spS (s : Nat → Bool) (q : Nat → Nat) (n : Nat) : Rat := spR (lyN s q n) (cntS s n - 2) 0
def lieS (s : Nat → Bool) (q : Nat → Nat) (hh w : Nat → Rat) (F : Rat) (n : Nat) : Prop := 2 ≤ cntS s n ∧ (∀ i, i < cntS s n → 0 ≤ ldS s q hh w F n i) ∧ ∀ b, b < n → s b = false → 0 ≤ tzS s q hh w F n (q b) - 6 * F * spS s q n * hh b
theorem lieS_congr {s t : Nat → Bool} {q : Nat → Nat} {hh w : Nat → Rat} {F : Rat} {n : Nat} (h : ∀ b, b < n → s b = t b) (hl : lieS s q hh w F n) : lieS t q hh w F n := by
  unfold lieS ldS tzS spS at *
  rw [cntS_congr n h, lyN_congr n h, lyQ_congr n h] at hl
  exact ⟨hl.1, hl.2.1, fun b hb hs => hl.2.2 b hb (by rw [h b hb]; exact hs)⟩
/-- what is asked of n bearings, their heights, weights, STIFFNESS -/
def okS (q : Nat → Nat) (hh w : Nat → Rat) (F H : Rat) (n : Nat) : Prop := n ≤ 7 ∧ incN q n ∧ (∀ b, b < n → inQ (hh b) H) ∧ (∀ p, p < 13 → 0 ≤ w p ∧ w p ≤ 50) ∧ 1 ≤ F ∧ F ≤ 20 ∧ 0 ≤ H ∧ H ≤ 90
theorem okS_B {s : Nat → Bool} {q : Nat → Nat} {hh w : Nat → Rat} {F H : Rat} {n : Nat} (a : okS q hh w F H n) (h2 : 2 ≤ cntS s n) : okB (lyN s q n) (lyQ s hh n) w F H (cntS s n - 2) :=
  ⟨isP_sel a.2.1 a.1 h2, a.2.2.2.1, lyQ_in a.2.2.2.2.2.2.1 n a.2.2.1, a.2.2.2.2.1, a.2.2.2.2.2.1, a.2.2.2.2.2.2.1, a.2.2.2.2.2.2.2⟩
/-! the class's rest: what it is asked to begin with, what it leaves -/
def RestI (I : IM) (L : LM) (r n : Nat) (q : Nat → Nat) (hh w : Nat → Rat) (F : Rat) : Prop :=
  I r 1 = nI n ∧ (∀ k, k < n → I (r + 13) k = nI (q k)) ∧ (∀ k, k < n → ((I (r + 14) k).toInt : Rat) = hh k) ∧ RI (L (r + 1) 5) F ∧ RI (L (r + 1) 7) (allQ w) ∧ RI (L (r + 1) 8) (mmtQ w) ∧ (∀ p, p < 13 → RI (L (r + 6) p) (sQ (fun k => w k * cb ((p : Rat) - k)) 13)) ∧ (∀ p, p < 13 → RI (L (r + 5) p) (sQ (fun k => w k * sq2 ((p : Rat) - k)) 13))
def RestS (I : IM) (L : LM) (r n : Nat) (s : Nat → Bool) (q : Nat → Nat) (hh w : Nat → Rat) (F : Rat) : Prop :=
  RestI I L r n q hh w F ∧ I (r + 1) 0 = nI (cntS s n) ∧ (∀ b, b < n → I (r + 15) b = if s b = true then nI (cntS s b) else -1) ∧ (2 ≤ cntS s n → SolO I L (r + 1) (cntS s n - 2) (lyN s q n) (lyQ s hh n) w F)
/-- what lay touches -/
def frI (r : Nat) (I I' : IM) : Prop := ∀ a k, a ≠ r + 2 → a ≠ r + 3 → a ≠ r + 15 → (a ≠ r + 1 ∨ k ≠ 0) → I' a k = I a k
def frL (b : Nat) (L L' : LM) : Prop := ∀ a j, (a ≠ b ∨ (j ≠ 4 ∧ j ≠ 6)) → (a < b + 3 ∨ (b + 3 < a ∧ a < b + 6) ∨ b + 11 < a) → L' a j = L a j
theorem frI_0 {r : Nat} {I : IM} : frI r I I := fun _ _ _ _ _ _ => rfl
theorem frL_0 {r : Nat} {L : LM} : frL r L L := fun _ _ _ _ => rfl
theorem frI_t {r : Nat} {I I' I'' : IM} (h1 : frI r I I') (h2 : frI r I' I'') : frI r I I'' := fun a k c1 c2 c3 c4 => (h2 a k c1 c2 c3 c4).trans (h1 a k c1 c2 c3 c4)
theorem frL_t {r : Nat} {L L' L'' : LM} (h1 : frL r L L') (h2 : frL r L' L'') : frL r L L'' := fun a k c1 c2 => (h2 a k c1 c2).trans (h1 a k c1 c2)
theorem RestI_fr {I I' : IM} {L L' : LM} {r n : Nat} {q : Nat → Nat} {hh w : Nat → Rat} {F : Rat} (h : RestI I L r n q hh w F) (h1 : frI r I I') (h2 : frL (r + 1) L L') : RestI I' L' r n q hh w F := by
  obtain ⟨a1, a2, a3, a4, a5, a6, a7, a8⟩ := h
  refine ⟨?_, fun k hk => ?_, fun k hk => ?_, ?_, ?_, ?_, fun p hp => ?_, fun p hp => ?_⟩
  · rw [h1 _ _ (by omega) (by omega) (by omega) (by omega)]; exact a1
  · rw [h1 _ _ (by omega) (by omega) (by omega) (by omega)]; exact a2 k hk
  · rw [h1 _ _ (by omega) (by omega) (by omega) (by omega)]; exact a3 k hk
  · rw [h2 _ _ (by omega) (by omega)]; exact a4
  · rw [h2 _ _ (by omega) (by omega)]; exact a5
  · rw [h2 _ _ (by omega) (by omega)]; exact a6
  · rw [h2 _ _ (by omega) (by omega)]; exact a7 p hp
  · rw [h2 _ _ (by omega) (by omega)]; exact a8 p hp
section LAY
variable {I : IM} {L : LM} {r n : Nat} {c : Int32} {q : Nat → Nat} {hh w : Nat → Rat} {F H : Rat}
theorem lay_fr : frI r I (layI I r c n n) := fun a k h1 h2 h3 h4 => by
  unfold layI ly
  rw [if_neg h1, if_neg h2, if_neg h3, if_neg (by omega)]
theorem lay_frL {I' : IM} {b m : Nat} {pl : Nat → Nat} : frL b L (solL I' L b m pl) := fun a j h1 h2 => solL_o h1 h2
theorem lay_S (ok : okS q hh w F H n) (h : RestI I L r n q hh w F) : RestS (layI I r c n n) (solL (layI I r c n n) L (r + 1) (cntS (selC c n) n) (lyN (selC c n) q n)) r n (selC c n) q hh w F := by
  refine ⟨RestI_fr h lay_fr lay_frL, by unfold layI; rw [ly_c], fun b hb => ?_, fun h2 => ?_⟩
  · unfold layI
    rw [ly_15, lyT_at n hb]
  · have hP := isP_sel (s := selC c n) ok.2.1 ok.1 h2
    have e : cntS (selC c n) n = (cntS (selC c n) n - 2) + 2 := by omega
    have hS : SolI (layI I r c n n) L (r + 1) (cntS (selC c n) n - 2) (lyN (selC c n) q n) (lyQ (selC c n) hh n) w F := by
      refine ⟨fun k hk => ?_, fun k hk => ?_, h.2.2.2.1, h.2.2.2.2.1, h.2.2.2.2.2.1, h.2.2.2.2.2.2.1, h.2.2.2.2.2.2.2⟩
      · obtain ⟨b, hb, h3, h4⟩ := cntS_onto (s := selC c n) (i := k) n (by omega)
        show layI I r c n n (r + 2) k = _
        unfold layI
        rw [ly_2, ← h4, lyP_at h3 n hb, lyN_at h3 n hb]
        exact h.2.1 b hb
      · obtain ⟨b, hb, h3, h4⟩ := cntS_onto (s := selC c n) (i := k) n (by omega)
        show ((layI I r c n n (r + 3) k).toInt : Rat) = _
        unfold layI
        rw [ly_3, ← h4, lyP_at h3 n hb, lyQ_at h3 n hb]
        exact h.2.2.1 b hb
    have := SolO_of hP hS
    rw [← e] at this
    exact this
end LAY
