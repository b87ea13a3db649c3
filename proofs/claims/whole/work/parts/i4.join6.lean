/-! runs: class and model alike -/
section J8
variable {sh : Sh} {I I' : IM} {L L' : LM} {R R' : RM} {A : LA} {lo hi : Int} {T : Nat}
theorem cutQ_in {q : Rat} (h0 : 0 ≤ q) (h1 : q ≤ 141000) : 0 ≤ cutQ q ∧ cutQ q ≤ 141000 := by
  have hd : 0 < (q.den : Int) := by have := q.den_pos; omega
  have hn : 0 ≤ q.num := Rat.num_nonneg.mpr h0
  have hq : q.num ≤ 141000 * (q.den : Int) := by
    have e : (q.num : Rat) = q * (q.den : Rat) := num_den q
    have h2 : (q.num : Rat) ≤ ((141000 * (q.den : Int) : Int) : Rat) := by
      rw [e, Rat.intCast_mul, Rat.intCast_natCast]
      have e2 : ((141000 : Int) : Rat) = 141000 := rfl
      rw [e2]
      exact Rat.mul_le_mul_of_nonneg_right h1 (by have := p_ge q.den; exact this)
    exact Rat.intCast_le_intCast.mp h2
  unfold cutQ
  rw [Int.tdiv_eq_ediv_of_nonneg hn]
  exact ⟨Int.ediv_nonneg hn (by omega), Int.ediv_le_of_le_mul hd hq⟩
/-- hourly wear of a bearing that lies -/
theorem hrA_in {c b : Nat} {v : Int32} (a : okA A) (hc : firC (aN A) (lieC (aN A) (aQ A) (hgt A 0) (wgt A) (stf A)) c) (hb : b < aN A) (hv : 1 ≤ v.toInt ∧ v.toInt ≤ 1000) : 0 ≤ (hrA A (setA A c) v b).toInt ∧ (hrA A (setA A c) v b).toInt ≤ 141000000 := by
  have h7 : aN A ≤ 7 := by have := a.1; omega
  have h2 := fir_2 h7 hc
  have hl := hc.2.2.1
  have hq : 0 ≤ qLd A 0 (setA A c) b ∧ qLd A 0 (setA A c) b ≤ 141000 := by
    unfold qLd
    by_cases cs : setA A c b = true
    · rw [if_pos cs]
      have hlt := cntS_mono cs (aN A) hb
      refine ⟨hl.2.1 _ hlt, ?_⟩
      exact (ld_141 (okS_B (okA_S a (show 0 < 4 by decide)) h2) (show cntS (setA A c) b < cntS (setA A c) (aN A) - 2 + 2 by omega)).2
    · rw [if_neg cs]
      constructor <;> grind
  have hk := cutQ_in hq.1 hq.2
  unfold hrA
  generalize cutQ (qLd A 0 (setA A c) b) = z at *
  have ez : (Int32.ofInt z).toInt = z := Int32.toInt_ofInt_of_le (by omega) (by omega)
  have hm1 : 0 ≤ z * v.toInt := Int.mul_nonneg hk.1 (by omega)
  have hm2 : z * v.toInt ≤ 141000 * 1000 := Int.mul_le_mul hk.2 hv.2 (by omega) (by omega)
  rw [Int32.toInt_mul, ez, Int.bmod_eq_of_le (by omega) (by omega)]
  omega
/-- wear and offset behind it -/
theorem wear_in {o w h : Int32} (hw : 0 ≤ w.toInt ∧ w.toInt ≤ 9999) (hh : 0 ≤ h.toInt ∧ h.toInt ≤ 141000000) (ho : -50 ≤ o.toInt ∧ o.toInt ≤ 50) : (0 ≤ (wearW (w + h)).toInt ∧ (wearW (w + h)).toInt ≤ 9999) ∧ (-50 ≤ (wearO o (w + h)).toInt ∧ (wearO o (w + h)).toInt ≤ 50) := by
  have e : (w + h).toInt = w.toInt + h.toInt := by
    rw [Int32.toInt_add, Int.bmod_eq_of_le (by omega) (by omega)]
  have h2 : (10000 : Int32).toInt = 10000 := rfl
  have eq : (wearQ (w + h)).toInt = (w.toInt + h.toInt) / 10000 := by
    rw [wearQ_eq, Int32.toInt_div_of_ne_right _ _ (by decide), e, h2, Int.tdiv_eq_ediv_of_nonneg (by omega)]
  have em : (wearQ (w + h) * 10000).toInt = (w.toInt + h.toInt) / 10000 * 10000 := by
    rw [Int32.toInt_mul, eq, h2, Int.bmod_eq_of_le (by omega) (by omega)]
  refine ⟨?_, ?_⟩
  · unfold wearW
    rw [Int32.toInt_sub, e, em, Int.bmod_eq_of_le (by omega) (by omega)]
    omega
  · unfold wearO
    have z50 : (-50 : Int32).toInt = -50 := rfl
    have es : (o - wearQ (w + h)).toInt = o.toInt - (w.toInt + h.toInt) / 10000 := by
      rw [Int32.toInt_sub, eq, Int.bmod_eq_of_le (by omega) (by omega)]
    split
    · rename_i c
      rw [Int32.lt_iff_toInt_lt, z50, es] at c
      rw [es]
      omega
    · rw [z50]
      omega
theorem MLn_81 (h : MLn I 81 A) (f : ∀ a k, 81 ≤ a → I' a k = I a k) : MLn I' 81 A := by
  obtain ⟨a1, a2, a3, a4, a5, a6⟩ := h
  refine ⟨?_, fun k hk => ?_, fun k hk => ?_, fun p hp => ?_, ?_, fun s hs p hp => ?_⟩
  · rw [f _ _ (by omega)]; exact a1
  · rw [f _ _ (by omega)]; exact a2 k hk
  · rw [f _ _ (by omega)]; exact a3 k hk
  · rw [f _ _ (by omega)]; exact a4 p hp
  · rw [f _ _ (by omega)]; exact a5
  · rw [f _ _ (by omega)]; exact a6 s hs p hp
theorem j_run (hJ : JJ sh I L R) (v : Int32) : JMi sh I L R M_X7_run M_X8_run [.int v] := by
  obtain ⟨A, lo, hi, T, a, hR, h1, h2, h3, h4, h5, h6, h7⟩ := hJ
  refine ⟨_, c_X7_run hR.1 h1.1 a h7 v, fun r sh1 I1 L1 R1 hp => ?_⟩
  obtain ⟨e1, eR, fL, hP⟩ := hp
  have e1 := e1.symm
  have eR := eR.symm
  subst e1; subst eR
  rcases hP with ⟨c0, hP⟩ | ⟨c0, e0, f, hre⟩
  · rcases hP with ⟨c, hc, e0, n9, n14, f⟩ | ⟨hno, e0, f, hre⟩
    · have f81 : ∀ b k, 81 ≤ b → I1 b k = I b k := fun b k hb => by rw [f b k (by omega) (by omega), runI_o (by omega) (by omega)]
      have hm := ms_0 a (MLn_81 h1.2.1 f81) (fun k hk => by rw [f81 _ _ (by omega)]; exact h5.2 k hk)
      refine ⟨rfl, _, e0, _, c_X8_run hR.2.2 hm a v, fun r2 sh2 I2 L2 R2 hq => ?_⟩
      obtain ⟨d1, dR, gL, hQ⟩ := hq
      have d1 := d1.symm
      have dR := dR.symm
      subst d1; subst dR
      rcases hQ with ⟨_, hQ⟩ | ⟨c0', _⟩
      · rcases hQ with ⟨d, hd, d0, g⟩ | ⟨hno, _⟩
        · have hcd := fir_u hd hc
          subst hcd
          have hv := k_isW (c := 1) (d := 1000) c0 rfl rfl
          have hh : ∀ b, b < aN A → 0 ≤ (hrA A (setA A d) v b).toInt ∧ (hrA A (setA A d) v b).toInt ≤ 141000000 := fun b hb => hrA_in a hc hb hv
          generalize hrA A (setA A d) v = hr at *
          have hw : ∀ k, k < aN A → (0 ≤ (wearW (I 4 k + hr k)).toInt ∧ (wearW (I 4 k + hr k)).toInt ≤ 9999) ∧ (-50 ≤ (wearO (I 3 k) (I 4 k + hr k)).toInt ∧ (wearO (I 3 k) (I 4 k + hr k)).toInt ≤ 50) := fun k hk => wear_in (h1.2.2 k hk).2.2 (hh k hk) (by rw [h1.1.2.2.1 k hk]; exact a.2.2.1 k hk)
          have a' : okA (aN A, aQ A, (fun k => (wearO (I 3 k) (I 4 k + hr k)).toInt), aW A, aF A, aR A) := ⟨a.1, a.2.1, fun k hk => (hw k hk).2, a.2.2.2⟩
          have f2 : ∀ b k, (b < 21 ∨ 60 < b) → (b ≠ 0 ∨ (k ≠ 9 ∧ k ≠ 10 ∧ k ≠ 14)) → (b ≠ 81 ∨ (k ≠ 19 ∧ k ≠ 32 ∧ k ≠ 36)) → b ≠ 92 → b ≠ 93 → b ≠ 94 → b ≠ 101 → b ≠ 102 → b ≠ 84 → b ≠ 83 → I2 b k = runI I hr (aN A) b k := fun b k q1 q2 q3 q4 q5 q6 q7 q8 q9 q10 => by
            rw [g b k q3 q4 q5 q6 q7 q8, runM_o q9 q10, f b k q1 q2]
          have fo : ∀ b k, (b < 21 ∨ 60 < b) → (b ≠ 0 ∨ (k ≠ 9 ∧ k ≠ 10 ∧ k ≠ 14)) → (b ≠ 81 ∨ (k ≠ 19 ∧ k ≠ 32 ∧ k ≠ 36)) → b ≠ 92 → b ≠ 93 → b ≠ 94 → b ≠ 101 → b ≠ 102 → b ≠ 84 → b ≠ 83 → b ≠ 4 → b ≠ 3 → I2 b k = I b k := fun b k q1 q2 q3 q4 q5 q6 q7 q8 q9 q10 q11 q12 => by
            rw [f2 b k q1 q2 q3 q4 q5 q6 q7 q8 q9 q10, runI_o q11 q12]
          have r3 : ∀ k, k < aN A → I2 3 k = wearO (I 3 k) (I 4 k + hr k) := fun k hk => by
            rw [f2 3 k (by omega) (by omega) (by omega) (by omega) (by omega) (by omega) (by omega) (by omega) (by omega) (by omega)]
            unfold runI
            rw [if_neg (by omega), if_pos ⟨rfl, hk⟩]
          have r4 : ∀ k, k < aN A → I2 4 k = wearW (I 4 k + hr k) := fun k hk => by
            rw [f2 4 k (by omega) (by omega) (by omega) (by omega) (by omega) (by omega) (by omega) (by omega) (by omega) (by omega)]
            unfold runI
            rw [if_pos ⟨rfl, hk⟩]
          have r83 : ∀ k, k < aN A → I2 83 k = wearO (I 3 k) (I 4 k + hr k) := fun k hk => by
            rw [g 83 k (by omega) (by omega) (by omega) (by omega) (by omega) (by omega)]
            unfold runM
            rw [if_neg (by omega), if_pos ⟨rfl, hk⟩]
            show wearO (I1 83 k) (I1 84 k + hr k) = _
            rw [f81 83 k (by omega), f81 84 k (by omega), ← J_off h1 k hk, ← (h1.2.2 k hk).1]
          have r84 : ∀ k, k < aN A → I2 84 k = wearW (I 4 k + hr k) := fun k hk => by
            rw [g 84 k (by omega) (by omega) (by omega) (by omega) (by omega) (by omega)]
            unfold runM
            rw [if_pos ⟨rfl, hk⟩]
            show wearW (I1 84 k + hr k) = _
            rw [f81 84 k (by omega), ← (h1.2.2 k hk).1]
          obtain ⟨l1, l2, hW, hF, hRi, hWR⟩ := JA_un h1
          refine ⟨rfl, ?_, JJ_new a' hR (JA_mk ⟨?_, fun k hk => ?_, fun k hk => congrArg Int32.toInt (r3 k hk)⟩ ⟨?_, fun k hk => ?_, fun k hk => congrArg Int32.toInt (r83 k hk)⟩ (fun p hp => ?_) ?_ (fun s hs p hp => ?_) (fun k hk => ?_)) h2 h3 h4 h5 ?_ ?_ (fun b k c => fo b k (by unfold RelX at c; omega) (by unfold RelX at c; omega) (by unfold RelX at c; omega) (by unfold RelX at c; omega) (by unfold RelX at c; omega) (by unfold RelX at c; omega) (by unfold RelX at c; omega) (by unfold RelX at c; omega) (by unfold RelX at c; omega) (by unfold RelX at c; omega) (by unfold RelX at c; omega) (by unfold RelX at c; omega))⟩
          · rw [d0]
            have e : cntS (lessM I1 81 hr) (aN A) = cntS (lessB I hr) (aN A) := cntS_congr (aN A) (fun k hk => by
              unfold lessM lessB
              show decide (wearO (I1 83 k) (I1 84 k + hr k) < I1 83 k) = _
              rw [f81 83 k (by omega), f81 84 k (by omega), ← J_off h1 k hk, ← (h1.2.2 k hk).1])
            rw [e]
          · rw [fo 1 0 (by omega) (by omega) (by omega) (by omega) (by omega) (by omega) (by omega) (by omega) (by omega) (by omega) (by omega) (by omega)]; exact l1.1
          · show I2 2 k = _
            rw [fo 2 k (by omega) (by omega) (by omega) (by omega) (by omega) (by omega) (by omega) (by omega) (by omega) (by omega) (by omega) (by omega)]; exact l1.2.1 k hk
          · rw [fo 81 0 (by omega) (by omega) (by omega) (by omega) (by omega) (by omega) (by omega) (by omega) (by omega) (by omega) (by omega) (by omega)]; exact l2.1
          · show I2 82 k = _
            rw [fo 82 k (by omega) (by omega) (by omega) (by omega) (by omega) (by omega) (by omega) (by omega) (by omega) (by omega) (by omega) (by omega)]; exact l2.2.1 k hk
          · rw [fo 6 p (by omega) (by omega) (by omega) (by omega) (by omega) (by omega) (by omega) (by omega) (by omega) (by omega) (by omega) (by omega), fo 86 p (by omega) (by omega) (by omega) (by omega) (by omega) (by omega) (by omega) (by omega) (by omega) (by omega) (by omega) (by omega)]; exact hW p hp
          · rw [fo 1 6 (by omega) (by omega) (by omega) (by omega) (by omega) (by omega) (by omega) (by omega) (by omega) (by omega) (by omega) (by omega), fo 81 7 (by omega) (by omega) (by omega) (by omega) (by omega) (by omega) (by omega) (by omega) (by omega) (by omega) (by omega) (by omega)]; exact hF
          · rw [fo (8 + s) p (by omega) (by omega) (by omega) (by omega) (by omega) (by omega) (by omega) (by omega) (by omega) (by omega) (by omega) (by omega), fo 87 _ (by omega) (by omega) (by omega) (by omega) (by omega) (by omega) (by omega) (by omega) (by omega) (by omega) (by omega) (by omega)]; exact hRi s hs p hp
          · have hk : k < aN A := hk
            rw [r4 k hk, r84 k hk, fo 5 k (by omega) (by omega) (by omega) (by omega) (by omega) (by omega) (by omega) (by omega) (by omega) (by omega) (by omega) (by omega), fo 85 k (by omega) (by omega) (by omega) (by omega) (by omega) (by omega) (by omega) (by omega) (by omega) (by omega) (by omega) (by omega)]
            exact ⟨rfl, (hWR k hk).2.1, (hw k hk).1⟩
          · rw [g 0 9 (by omega) (by omega) (by omega) (by omega) (by omega) (by omega), runM_o (by omega) (by omega)]; exact n9
          · rw [g 0 14 (by omega) (by omega) (by omega) (by omega) (by omega) (by omega), runM_o (by omega) (by omega)]; exact n14
        · exact (fir_non hc hno).elim
      · rw [c0] at c0'; cases c0'
    · refine ⟨rfl, _, e0, _, c_X8_run hR.2.2 (obs_M (L1 := L1) a h1 h5 f) a v, fun r2 sh2 I2 L2 R2 hq => ?_⟩
      obtain ⟨d1, dR, gL, hQ⟩ := hq
      have d1 := d1.symm
      have dR := dR.symm
      subst d1; subst dR
      rcases hQ with ⟨_, hQ⟩ | ⟨c0', _⟩
      · rcases hQ with ⟨d, hd, _⟩ | ⟨_, d0, g⟩
        · exact (fir_non hd hno).elim
        · exact ⟨rfl, d0, obs_J a hR h1 h2 h3 h4 h5 h6 f hre g gL⟩
      · rw [c0] at c0'; cases c0'
  · refine ⟨rfl, _, e0, _, c_X8_run hR.2.2 (obs_M (L1 := L1) a h1 h5 f) a v, fun r2 sh2 I2 L2 R2 hq => ?_⟩
    obtain ⟨d1, dR, gL, hQ⟩ := hq
    have d1 := d1.symm
    have dR := dR.symm
    subst d1; subst dR
    rcases hQ with ⟨c0', _⟩ | ⟨_, d0, g⟩
    · rw [c0] at c0'; cases c0'
    · exact ⟨rfl, d0, obs_J a hR h1 h2 h3 h4 h5 h6 f hre g gL⟩
end J8
