/-! the model's sets: codes, frames, whether one lies -/
def rvN : Nat → Nat → Nat
  | 0, _ => 0
  | n + 1, c => (c % 2) * 2 ^ n + rvN n (c / 2)
theorem rv_lt : ∀ n, n ≤ 7 → ∀ c, c < 2 ^ n → rvN n c < 2 ^ n := by
  have h : ∀ n, n < 8 → ∀ c, c < 2 ^ n → rvN n c < 2 ^ n := by decide +kernel
  exact fun n hn => h n (by omega)
theorem rv_rv : ∀ n, n ≤ 7 → ∀ c, c < 2 ^ n → rvN n (rvN n c) = c := by
  have h : ∀ n, n < 8 → ∀ c, c < 2 ^ n → rvN n (rvN n c) = c := by decide +kernel
  exact fun n hn => h n (by omega)
theorem rv_sel : ∀ n, n ≤ 7 → ∀ c, c < 2 ^ n → ∀ k, k < n → selC (nI (rvN n c)) n k = selM (nI c) k := by
  have h : ∀ n, n < 8 → ∀ c, c < 2 ^ n → ∀ k, k < n → selC (nI (rvN n c)) n k = selM (nI c) k := by decide +kernel
  exact fun n hn => h n (by omega)
theorem rv_pop : ∀ n, n ≤ 7 → ∀ c, c < 2 ^ n → popN (rvN n c) = popN c := by
  have h : ∀ n, n < 8 → ∀ c, c < 2 ^ n → popN (rvN n c) = popN c := by decide +kernel
  exact fun n hn => h n (by omega)
theorem siz_pop : ∀ c, c < 128 → sizM (nI c) 7 = nI (popN c) := by decide +kernel
theorem bitS_N : ∀ c, c < 128 → ∀ k, k < 7 → bitS (nI c) k = nI (c / 2 ^ k % 2) := by decide +kernel
def ahN (x y : Nat) : Nat → Nat → Bool
  | 0, _ => false
  | f + 1, k => if x / 2 ^ k % 2 = y / 2 ^ k % 2 then ahN x y f (k + 1) else decide (x / 2 ^ k % 2 = 1)
theorem ahN_rv : ∀ x, x < 128 → ∀ y, y < 128 → ahN x y 7 0 = decide (rvN 7 y < rvN 7 x) := by decide +kernel
theorem rv_7 : ∀ n, n ≤ 7 → ∀ c, c < 2 ^ n → rvN 7 c = 2 ^ (7 - n) * rvN n c := by
  have h : ∀ n, n < 8 → ∀ c, c < 2 ^ n → rvN 7 c = 2 ^ (7 - n) * rvN n c := by decide +kernel
  exact fun n hn => h n (by omega)
theorem fst_no {g : Nat → Bool} {n : Nat} (h : ∀ k, k < n → g k = false) : fstB g n = none := by
  induction n with
  | zero => rfl
  | succ n ih =>
    unfold fstB
    rw [ih (fun k hk => h k (by omega))]
    simp [h n (by omega)]
theorem fst_at {g : Nat → Bool} {i : Nat} (h : ∀ k, k < i → g k = false) (hi : g i = true) : ∀ n, i < n → fstB g n = some i := by
  intro n hn
  induction n with
  | zero => omega
  | succ n ih =>
    unfold fstB
    by_cases c : i < n
    · rw [ih c]
    · have : n = i := by omega
      subst this
      rw [fst_no h]
      simp [hi]
theorem ahd_N {x y : Nat} (hx : x < 128) (hy : y < 128) : ∀ f k, k + f = 7 → (∀ j, j < k → x / 2 ^ j % 2 = y / 2 ^ j % 2) → ahdB (nI x) (nI y) = ahN x y f k
  | 0, k, hk, h => by
    have hd : ∀ j, j < 7 → difB (nI x) (nI y) j = false := fun j hj => by
      unfold difB
      rw [bitS_N x hx j hj, bitS_N y hy j hj, h j (by omega)]
      simp
    rw [ahdB_n (fst_no hd)]
    rfl
  | f + 1, k, hk, h => by
    simp only [ahN]
    by_cases c : x / 2 ^ k % 2 = y / 2 ^ k % 2
    · rw [if_pos c]
      exact ahd_N hx hy f (k + 1) (by omega) (fun j hj => by
        by_cases e : j = k
        · rw [e]; exact c
        · exact h j (by omega))
    · rw [if_neg c]
      have hd : ∀ j, j < k → difB (nI x) (nI y) j = false := fun j hj => by
        unfold difB
        rw [bitS_N x hx j (by omega), bitS_N y hy j (by omega), h j (by omega)]
        simp
      have h2 : ∀ a b : Nat, a < 2 → b < 2 → (nI a = nI b ↔ a = b) := fun a b ha hb => nI_eq (by omega) (by omega)
      have hk1 : difB (nI x) (nI y) k = true := by
        unfold difB
        rw [bitS_N x hx k (by omega), bitS_N y hy k (by omega)]
        rw [decide_eq_true_iff]
        intro e
        exact c ((h2 _ _ (Nat.mod_lt _ (by decide)) (Nat.mod_lt _ (by decide))).mp e)
      rw [ahdB_s (fst_at hd hk1 7 (by omega)), bitS_N x hx k (by omega)]
      have h3 : ∀ a : Nat, a < 2 → (nI a = 1 ↔ a = 1) := fun a ha => nI_eq (b := 1) (by omega) (by decide)
      simp only [h3 _ (Nat.mod_lt _ (by decide))]
theorem rv_ahd {n c d : Nat} (h7 : n ≤ 7) (hc : c < 2 ^ n) (hd : d < 2 ^ n) : ahdB (nI c) (nI d) = decide (rvN n d < rvN n c) := by
  have h128 := p7 h7
  rw [ahd_N (by omega) (by omega) 7 0 rfl (fun j hj => absurd hj (Nat.not_lt_zero _)), ahN_rv c (by omega) d (by omega), rv_7 n h7 c hc, rv_7 n h7 d hd]
  have hp : 0 < 2 ^ (7 - n) := Nat.two_pow_pos _
  have e : (2 ^ (7 - n) * rvN n d < 2 ^ (7 - n) * rvN n c) = (rvN n d < rvN n c) := propext (Nat.mul_lt_mul_left hp)
  simp only [e]
theorem selM_cnt {n c : Nat} (h7 : n ≤ 7) (hc : c < 2 ^ n) : cntS (selM (nI c)) n = popN c := by
  rw [← cntS_congr n (rv_sel n h7 c hc), pop_cnt n h7 _ (rv_lt n h7 c hc), rv_pop n h7 c hc]
/-- frames: what is chosen; the longs that are worked on -/
def frCh (m : Nat) (I I' : IM) : Prop := ∀ a k, (a ≠ m ∨ k ≠ 19) → a ≠ m + 11 → a ≠ m + 12 → I' a k = I a k
def frG (m : Nat) (L L' : LM) : Prop := ∀ a k, (a ≠ m ∨ (k ≠ 17 ∧ k ≠ 18 ∧ k ≠ 29 ∧ k ≠ 30 ∧ k ≠ 31)) → (a < m + 14 ∨ m + 19 < a) → L' a k = L a k
theorem frCh_0 {m : Nat} {I : IM} : frCh m I I := fun _ _ _ _ _ => rfl
theorem frG_0 {m : Nat} {L : LM} : frG m L L := fun _ _ _ _ => rfl
theorem frCh_t {m : Nat} {I I' I'' : IM} (h1 : frCh m I I') (h2 : frCh m I' I'') : frCh m I I'' := fun a k c1 c2 c3 => (h2 a k c1 c2 c3).trans (h1 a k c1 c2 c3)
theorem frG_t {m : Nat} {L L' L'' : LM} (h1 : frG m L L') (h2 : frG m L' L'') : frG m L L'' := fun a k c1 c2 => (h2 a k c1 c2).trans (h1 a k c1 c2)
theorem frG_go {m : Nat} {L L' : LM} (h : gofr m L L') : frG m L L' := fun a k c1 c2 => h a k (by omega) c2
theorem frG_U {m : Nat} {L L' : LM} (h : frU m L L') : frG m L L' := fun a k c1 c2 => h a k (by omega)
theorem frG_F {m : Nat} {L L' : LM} (h : frF m L L') : frG m L L' := fun a k c1 c2 => h a k (by omega)
theorem frCh_ch {m n : Nat} {I : IM} {c : Int32} : frCh m I (chI I m c n) := fun a k c1 c2 c3 => chI_o c2 c3 c1
theorem CnM_Ch {I I' : IM} {m n : Nat} {q : Nat → Nat} {hh w : Nat → Rat} {F : Rat} (h : CnM I m n q hh w F) (f : frCh m I I') : CnM I' m n q hh w F := by
  obtain ⟨a1, a2, a3, a4, a5⟩ := h
  refine ⟨?_, fun k hk => ?_, fun k hk => ?_, fun p hp => ?_, ?_⟩
  · rw [f m 32 (by omega) (by omega) (by omega)]; exact a1
  · rw [f _ _ (by omega) (by omega) (by omega)]; exact a2 k hk
  · rw [f _ _ (by omega) (by omega) (by omega)]; exact a3 k hk
  · rw [f _ _ (by omega) (by omega) (by omega)]; exact a4 p hp
  · rw [f m 7 (by omega) (by omega) (by omega)]; exact a5
theorem ch_sol {I : IM} {m n : Nat} {q : Nat → Nat} {hh w : Nat → Rat} {F : Rat} {c : Int32} (h : CnM I m n q hh w F) (h2 : 2 ≤ cntS (selM c) n) : SolM (chI I m c n) m (cntS (selM c) n - 2) (lyN (selM c) q n) (lyQ (selM c) hh n) w F := by
  obtain ⟨a1, a2, a3, a4, a5⟩ := h
  have e : cntS (selM c) n - 2 + 2 = cntS (selM c) n := by omega
  refine ⟨by rw [e]; exact chI_c, fun k hk => ?_, fun k hk => ?_, fun p hp => ?_, ?_⟩
  · obtain ⟨b, hb, h3, h4⟩ := cntS_onto (s := selM c) (i := k) n (by omega)
    have e1 : chI I m c n (m + 11) k = lyP (selM c) (I (m + 20)) (I (m + 11)) n k := if_pos rfl
    rw [e1, ← h4, lyP_at h3 n hb, lyN_at h3 n hb]
    exact a2 b hb
  · obtain ⟨b, hb, h3, h4⟩ := cntS_onto (s := selM c) (i := k) n (by omega)
    have e1 : chI I m c n (m + 12) k = lyP (selM c) (I (m + 21)) (I (m + 12)) n k := by
      unfold chI
      rw [if_neg (by omega), if_pos rfl]
    rw [e1, ← h4, lyP_at h3 n hb, lyQ_at h3 n hb]
    exact a3 b hb
  · rw [chI_o (by omega) (by omega) (by omega)]; exact a4 p hp
  · rw [chI_o (by omega) (by omega) (by omega)]; exact a5
theorem and01 (x : Int32) : x &&& 1 = 0 ∨ x &&& 1 = 1 := by
  have e : (x &&& 1).toBitVec = x.toBitVec &&& 1#32 := rfl
  rw [BitVec.and_one_eq_setWidth_ofBool_getLsbD] at e
  cases c : x.toBitVec.getLsbD 0 with
  | false =>
    left
    rw [c] at e
    exact Int32.toBitVec_inj.mp e
  | true =>
    right
    rw [c] at e
    exact Int32.toBitVec_inj.mp e
theorem selM_t {c v : Int32} {k : Nat} (ev : v = nI k) (h : ¬ (c >>> (v &&& 31)) &&& 1 = 0) : selM c k = true := by
  subst ev
  rcases and01 (c >>> (nI k &&& 31)) with e | e
  · exact absurd e h
  · exact decide_eq_true e
theorem selM_f {c v : Int32} {k : Nat} (ev : v = nI k) (h : (c >>> (v &&& 31)) &&& 1 = 0) : selM c k = false := by
  subst ev
  exact decide_eq_false (by rw [h]; decide)
theorem selM_v {c v : Int32} {k : Nat} (ev : v = nI k) : (c >>> (v &&& 31)) &&& 1 = if selM c k = true then 1 else 0 := by
  rcases and01 (c >>> (v &&& 31)) with e | e
  · rw [e, selM_f ev e]; rfl
  · rw [e, selM_t (c := c) ev (by rw [e]; decide)]; rfl
theorem RF_nn {x y : Int64} {q : Rat} (h : RF x y q) : 0 ≤ x.toInt ↔ 0 ≤ q := by
  rw [h.1]
  exact Rat.num_nonneg
theorem RF_mul {x y : Int64} {q : Rat} (h : RF x y q) : (x.toInt : Rat) = q * (y.toInt : Rat) ∧ 0 < y.toInt := by
  have := RF_t (D := q.den) h (Nat.dvd_refl _)
  exact ⟨this.1, this.2.1⟩
/-- a height against where a bearing stands -/
theorem hgt_cmp {x y : Int64} {z : Int32} {q g : Rat} (h : RF x y q) (hy : y.toInt ≤ 57649397760) (hz : (z.toInt : Rat) = g) (h1 : -1000 ≤ z.toInt) (h2 : z.toInt ≤ 1000) : (z.toInt64 * y).toInt ≤ x.toInt ↔ g ≤ q := by
  obtain ⟨e, hp⟩ := RF_mul h
  have hyy : inQ (y.toInt : Rat) ((57649397760 : Int) : Rat) := int_inQ (by omega) hy
  have hzz : inQ (z.toInt : Rat) ((1000 : Int) : Rat) := int_inQ (by omega) h2
  have e2 : ((z.toInt64 * y).toInt : Rat) = (z.toInt : Rat) * (y.toInt : Rat) := RI_get (RI_mul (RI_32 z) (RI_64 y)) (by
    refine inQ_le (inQ_mul hzz hyy) ?_
    have k1 : ((57649397760 : Int) : Rat) = 57649397760 := rfl
    have k2 : ((1000 : Int) : Rat) = 1000 := rfl
    rw [k1, k2]
    grind)
  have hd : (0 : Rat) < (y.toInt : Rat) := Rat.intCast_lt_intCast.mpr hp
  rw [← Rat.intCast_le_intCast, e2, e, hz, mul_le_c hd]
theorem tz_le {tz d g : Rat} (hd : 0 < d) : g ≤ tz / d ↔ 0 ≤ tz - d * g := by
  have hn : d ≠ 0 := by grind
  have e : tz / d * d = tz := Rat.div_mul_cancel hn
  rw [← mul_le_c (p := g) (q := tz / d) hd, e]
  grind
theorem den_le {y : Int64} {x : Int64} {q : Rat} {D : Nat} (h : RF x y q) (hv : q.den ∣ D) (hD : 0 < D) (hi : inQ (D : Rat) 57649397760) : y.toInt ≤ 57649397760 := by
  have l := Nat.le_of_dvd hD hv
  have h2 : (D : Rat) ≤ ((57649397760 : Nat) : Rat) := hi.2
  have h2 := Rat.natCast_le_natCast.mp h2
  rw [h.2]
  omega
def lieP (sh : Sh) (I : IM) (L : LM) (R : RM) (m n : Nat) (s : Nat → Bool) (q : Nat → Nat) (hh w : Nat → Rat) (F : Rat) : PPost := fun ret sh' I' L' R' => sh' = sh ∧ R' = R ∧ frCh m I I' ∧ frG m L L' ∧ ∃ bb : Bool, ret = some (.int (bI bb)) ∧ (bb = true ↔ lieS s q hh w F n)
/-- does the model's code lie -/
def lieM (n : Nat) (q : Nat → Nat) (hh w : Nat → Rat) (F : Rat) (c : Nat) : Prop := lieS (selM (nI c)) q hh w F n
theorem lieM_C {n : Nat} {q : Nat → Nat} {hh w : Nat → Rat} {F : Rat} {c : Nat} (h7 : n ≤ 7) (hc : c < 2 ^ n) : lieC n q hh w F (rvN n c) ↔ lieM n q hh w F c :=
  ⟨fun h => lieS_congr (rv_sel n h7 c hc) h, fun h => lieS_congr (fun b hb => (rv_sel n h7 c hc b hb).symm) h⟩
/-- the best so far -/
def bstM (n : Nat) (q : Nat → Nat) (hh w : Nat → Rat) (F : Rat) (sz d : Nat) (b : Int32) : Prop := (b = -4 ∧ ∀ e, e < d → popN e = sz → ¬ lieM n q hh w F e) ∨ (∃ e, e < d ∧ b = nI e ∧ popN e = sz ∧ lieM n q hh w F e ∧ ∀ t, t < d → popN t = sz → lieM n q hh w F t → rvN n t ≤ rvN n e)
section BS
variable {n sz d : Nat} {q : Nat → Nat} {hh w : Nat → Rat} {F : Rat} {b : Int32}
theorem bst_0 : bstM n q hh w F sz 0 (-4) := Or.inl ⟨rfl, fun e he => absurd he (Nat.not_lt_zero _)⟩
theorem bst_n (h : bstM n q hh w F sz d b) (hn : popN d = sz → ¬ lieM n q hh w F d) : bstM n q hh w F sz (d + 1) b := by
  rcases h with ⟨e0, h⟩ | ⟨e, he, e0, h1, h2, h3⟩
  · exact Or.inl ⟨e0, fun t ht hs => by
      by_cases c : t = d
      · rw [c] at hs ⊢; exact hn hs
      · exact h t (by omega) hs⟩
  · exact Or.inr ⟨e, by omega, e0, h1, h2, fun t ht hs hl => by
      by_cases c : t = d
      · rw [c] at hs hl; exact absurd hl (hn hs)
      · exact h3 t (by omega) hs hl⟩
theorem bst_b {x : Int32} (h : bstM n q hh w F sz d b) (hx : x = nI d) (hs : popN d = sz) (hl : lieM n q hh w F d) (ha : ∀ e, b = nI e → e < d → rvN n e ≤ rvN n d) : bstM n q hh w F sz (d + 1) x := by
  refine Or.inr ⟨d, by omega, hx, hs, hl, fun t ht hts htl => ?_⟩
  by_cases c : t = d
  · rw [c]; exact Nat.le_refl _
  · rcases h with ⟨e0, h⟩ | ⟨e, he, e0, h1, h2, h3⟩
    · exact absurd htl (h t (by omega) hts)
    · exact Nat.le_trans (h3 t (by omega) hts htl) (ha e e0 he)
theorem bst_k (h : bstM n q hh w F sz d b) (hb : ¬ b < 0) (ha : ∀ e, b = nI e → e < d → rvN n d ≤ rvN n e) : bstM n q hh w F sz (d + 1) b := by
  rcases h with ⟨e0, h⟩ | ⟨e, he, e0, h1, h2, h3⟩
  · exact absurd (by rw [e0]; decide) hb
  · exact Or.inr ⟨e, by omega, e0, h1, h2, fun t ht hts htl => by
      by_cases c : t = d
      · rw [c]; exact ha e e0 he
      · exact h3 t (by omega) hts htl⟩
end BS
/-- what rests leaves: the set is told by the class's code -/
def rsmP (sh : Sh) (I : IM) (L : LM) (R : RM) (m n : Nat) (q : Nat → Nat) (hh w : Nat → Rat) (F : Rat) : PPost := fun ret sh' I' L' R' => sh' = sh ∧ R' = R ∧ frCh m I I' ∧ frG m L L' ∧ ((∃ c, firC n (lieC n q hh w F) c ∧ ret = some (.int (nI (rvN n c))) ∧ SolM I' m (cntS (selC (nI c) n) n - 2) (lyN (selC (nI c) n) q n) (lyQ (selC (nI c) n) hh n) w F ∧ loF L' m (cntS (selC (nI c) n) n - 2) (lyN (selC (nI c) n) q n) (lyQ (selC (nI c) n) hh n) w F) ∨ (nonC n (lieC n q hh w F) ∧ ret = some (.int (-4))))
theorem rsm_end {sh : Sh} {I I' : IM} {L L' : LM} {R : RM} {m n e : Nat} {q : Nat → Nat} {hh w : Nat → Rat} {F : Rat} {b : Int32} (h7 : n ≤ 7) (hc : e < 2 ^ n) (f : frCh m I I') (g : frG m L L') (h2 : 2 ≤ popN e) (hl : lieM n q hh w F e) (hm1 : ∀ d, d < 2 ^ n → 2 ≤ popN d → popN d < popN e → ¬ lieM n q hh w F d) (hm2 : ∀ d, d < 2 ^ n → popN d = popN e → lieM n q hh w F d → rvN n d ≤ rvN n e) (hb : b = nI e)
    (hS : SolM I' m (cntS (selM b) n - 2) (lyN (selM b) q n) (lyQ (selM b) hh n) w F) (hlo : loF L' m (cntS (selM b) n - 2) (lyN (selM b) q n) (lyQ (selM b) hh n) w F) : rsmP sh I L R m n q hh w F (some (.int b)) sh I' L' R := by
  subst hb
  have hs := rv_sel n h7 e hc
  refine ⟨rfl, rfl, f, g, Or.inl ⟨rvN n e, ⟨rv_lt n h7 e hc, by rw [rv_pop n h7 e hc]; exact h2, (lieM_C h7 hc).mpr hl, fun d hd h3 h4 => ?_⟩, by rw [rv_rv n h7 e hc], ?_, ?_⟩⟩
  · have hd2 := rv_lt n h7 d hd
    have e2 := rv_rv n h7 d hd
    have hp := rv_pop n h7 d hd
    rw [← e2] at h4
    have h4 := (lieM_C h7 hd2).mp h4
    rw [rv_pop n h7 e hc]
    rcases Nat.lt_trichotomy (popN e) (popN d) with c | c | c
    · exact Or.inl c
    · have := hm2 (rvN n d) hd2 (by omega) h4
      rw [e2] at this
      exact Or.inr ⟨c, this⟩
    · exact absurd h4 (hm1 (rvN n d) hd2 (by omega) (by omega))
  · rw [cntS_congr n hs, lyN_congr n hs, lyQ_congr n hs]; exact hS
  · rw [cntS_congr n hs, lyN_congr n hs, lyQ_congr n hs]; exact hlo
theorem rsm_no {n : Nat} {q : Nat → Nat} {hh w : Nat → Rat} {F : Rat} (h7 : n ≤ 7) (h : ∀ d, d < 2 ^ n → 2 ≤ popN d → ¬ lieM n q hh w F d) : nonC n (lieC n q hh w F) := fun d hd h2 hl => by
  have hd2 := rv_lt n h7 d hd
  have e2 := rv_rv n h7 d hd
  rw [← e2] at hl
  exact h (rvN n d) hd2 (by rw [rv_pop n h7 d hd]; exact h2) ((lieM_C h7 hd2).mp hl)
theorem shl_2 : ∀ n, n ≤ 7 → (1 : Int32) <<< (nI n &&& 31) = nI (2 ^ n) := by
  have h : ∀ n, n < 8 → (1 : Int32) <<< (nI n &&& 31) = nI (2 ^ n) := by decide +kernel
  exact fun n hn => h n (by omega)
theorem lie_no1 {s : Nat → Bool} {q : Nat → Nat} {hh w : Nat → Rat} {F : Rat} {n i : Nat} {x y : Int64} (hi : i < cntS s n) (hR : RF x y (ldS s q hh w F n i)) (h : ¬ 0 ≤ x.toInt) : ¬ lieS s q hh w F n := fun hl => h ((RF_nn hR).mpr (hl.2.1 i hi))
theorem hei_ok {pl : Nat → Nat} {h w : Nat → Rat} {F H g : Rat} {n f x D : Nat} {L : LM} {m : Nat} {z : Int32} (hB : okB pl h w F H n) (hF : F = (f : Rat)) (hf1 : 1 ≤ f) (hf2 : f ≤ 20) (hDQ : DQ (spR pl n) n = (D : Rat)) (hD : 0 < D) (hP : PF L m (D * (6 * f) * spP pl n 0) (heiQ pl h w F n f x)) (hz : (z.toInt : Rat) = g ∧ -1000 ≤ z.toInt ∧ z.toInt ≤ 1000) : (z.toInt64 * L m 18).toInt ≤ (L m 17).toInt ↔ 0 ≤ tzP pl h w F n x - 6 * F * spR pl n 0 * g := by
  obtain ⟨d1, d2, d3⟩ := D4_ok hB.1 hDQ hD hf1 hf2
  have hy := den_le hP.1 hP.2 d1 d3
  rw [hgt_cmp hP.1 hy hz.1 hz.2.1 hz.2.2, hei_eq hB.1 hF hf1]
  have hs := sp_one hB.1 0
  have hf : (1 : Rat) ≤ (f : Rat) := cast_le hf1
  have hp : 0 < 6 * F * spR pl n 0 := by
    rw [hF]
    exact Rat.mul_pos (by grind) (by grind)
  exact tz_le hp
theorem lie_end {s : Nat → Bool} {q : Nat → Nat} {hh w : Nat → Rat} {F : Rat} {n : Nat} (h2 : 2 ≤ cntS s n) (h1 : ∀ i, i < cntS s n → 0 ≤ ldS s q hh w F n i) (h3 : ∀ b, b < n → s b = false → 0 ≤ tzS s q hh w F n (q b) - 6 * F * spS s q n * hh b) : lieS s q hh w F n := ⟨h2, h1, h3⟩
theorem f6_ok2 {I : IM} {m n : Nat} {pl : Nat → Nat} {h w : Nat → Rat} {F H : Rat} (hB : okB pl h w F H n) (hS : SolM I m n pl h w F) : ∃ f D : Nat, F = (f : Rat) ∧ 1 ≤ f ∧ f ≤ 20 ∧ (I m 7).toInt = (f : Int) ∧ DQ (spR pl n) n = (D : Rat) ∧ 0 < D ∧ D ≤ 204472320 := by
  obtain ⟨f, a1, a2, a3, a4⟩ := f6_ok hB hS
  obtain ⟨D, b1, b2, b3⟩ := dq_nat hB.1
  exact ⟨f, D, a1, a2, a3, a4, b1, b2, b3⟩
def lofP (sh : Sh) (I : IM) (L : LM) (R : RM) (m : Nat) (v : Rat) : PPost := fun ret sh' I' L' R' => ret = none ∧ sh' = sh ∧ R' = R ∧ I' = I ∧ frF m L L' ∧ RF (L' m 17) (L' m 18) v
theorem add_cnt {s : Nat → Bool} {j : Nat} {x : Int32} (hx : x = nI (cntS s j)) : x + (if s j = true then 1 else 0) = nI (cntS s (j + 1)) := by
  subst hx
  simp only [cntS]
  by_cases c : s j = true
  · rw [if_pos c, if_pos c, nI_1]
  · rw [if_neg c, if_neg c]
    exact Int32.add_zero _
theorem mk_lo {I : IM} {L : LM} {m n i : Nat} {pl : Nat → Nat} {h w : Nat → Rat} {F H : Rat} {a b : Int64} (hB : okB pl h w F H n) (hS : SolM I m n pl h w F) (hi : i < n + 2) (hR : RF a b (ldP pl h w F n i)) : ¬ gcdL a b = 0 ∧ RF (mkL L m a b m 17) (mkL L m a b m 18) (ldP pl h w F n i) := by
  obtain ⟨D, b1, b2, b3⟩ := dq_nat hB.1
  have hd := ld_D hB.1 hS hi b1 b2
  have k := in_lo (num_in hR hd b2 (D_inQ b3) (ld_141 hB hi) (by grind))
  obtain ⟨e, hp⟩ := RF_mul hR
  exact mk_ok k hp e
theorem mk_0 {L : LM} {m : Nat} : ¬ gcdL 0 1 = 0 ∧ RF (mkL L m 0 1 m 17) (mkL L m 0 1 m 18) 0 := mk_ok (by decide) (by decide) (by rw [zL, Rat.zero_mul]; rfl)
