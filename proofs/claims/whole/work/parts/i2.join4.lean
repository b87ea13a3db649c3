/-! rises by a row; what is asked of the line: class and model alike -/
section J6
variable {sh : Sh} {I : IM} {L : LM} {R : RM}
theorem j_rises (hJ : JJ sh I L R) (s t l i n : Int32) : JMi sh I L R M_X7_rises M_X8_rises [.int s, .int t, .int l, .int i, .int n] := by
  have hJ0 := hJ
  obtain ⟨A, lo, hi, T, a, hR, h1, h2, h3, h4, h5, h6, h7⟩ := hJ
  refine ⟨_, c_X7_rises hR.1.1 (fun j hj => (h4 j hj).1) (fun j hj => (h4 j hj).2.1) s t l i n, fun r sh1 I1 L1 R1 hp => ?_⟩
  have hsz : ∀ j, j < 4 → (I (81 + 25) j).toInt ≤ 13 := fun j hj => by rw [(h4 j hj).2.2.1]; exact (h4 j hj).1.2
  rcases hp with ⟨c0, hp⟩ | ⟨c0, e0, e1, eI, eL, eR⟩
  · have q0 := c0
    simp only [Bool.and_eq_true] at q0
    have ls := px_ix_lt (isW_ix (N := 4) q0.1.1.1 rfl (by decide))
    have lt := px_ix_lt (isW_ix (N := 4) q0.1.1.2 rfl (by decide))
    have hn := k_isW (c := 0) (d := 13) q0.2 rfl rfl
    have fe := fault_eq h4 lt (l := l) (i := i) hn.1
    have q1 : decide (faultS (I (73 + 2 * t.toNatClampNeg) 0) (I (73 + 2 * t.toNatClampNeg) 1) (I (73 + 2 * t.toNatClampNeg) 2) l i n < 0) = decide (faultM (I (81 + 24) t.toNatClampNeg) (I (81 + 25) t.toNatClampNeg) l i n < 0) := by rw [fe]
    rcases hp with ⟨c1, e0, e1, eI, eL, eR⟩ | ⟨c1, hp⟩
    · have e1 := e1.symm; have eI := eI.symm; have eL := eL.symm; have eR := eR.symm
      subst e1; subst eI; subst eL; subst eR
      refine ⟨rfl, _, e0, _, c_X8_rises (I := I) hR.2.2 hsz s t l i n, fun r2 sh2 I2 L2 R2 hp2 => ?_⟩
      rcases hp2 with ⟨m0, hp2⟩ | ⟨m0, hp2⟩
      · rcases hp2 with ⟨m1, d0, d1, dI, dL, dR⟩ | ⟨m1, hp2⟩
        · have dI := dI.symm; have dL := dL.symm; have dR := dR.symm
          subst dI; subst dL; subst dR
          refine ⟨d1, ?_, hJ0⟩
          rw [d0]
          exact congrArg (fun z => some (Value.int z)) fe.symm
        · exact absurd (c1.symm.trans (q1.trans m1)) (by decide)
      · exact absurd (c0.symm.trans m0) (by decide)
    · have k1 := faultS_ok (of_decide_eq_false c1)
      have k2 := hasB_in k1.2.2 (h4 _ lt).1
      have k3 := k_nn k2.1
      have k4 := k_nn hn.1
      have k5 := (h4 _ lt).1.2
      have gi := (h4 _ lt).2.2.2.2.2
      have q2 : allB (fun k => isW (I ((73 + 2 * t.toNatClampNeg) + 1) (i.toNatClampNeg + k)) (-20) 20) n.toNatClampNeg = allB (fun k => isW (I (81 + 26) (13 * t.toNatClampNeg + i.toNatClampNeg + k)) (-20) 20) n.toNatClampNeg := allB_cg _ (fun k hk => by
        have := gi (i.toNatClampNeg + k) (by omega)
        rw [show 13 * t.toNatClampNeg + i.toNatClampNeg + k = 13 * t.toNatClampNeg + (i.toNatClampNeg + k) by omega, show 73 + 2 * t.toNatClampNeg + 1 = 74 + 2 * t.toNatClampNeg by omega]
        show isW _ (-20) 20 = isW (I 107 _) (-20) 20
        rw [this])
      rcases hp with ⟨c2, e0, e1, eI, eL, eR⟩ | ⟨c2, e0, e1, eI, eL, eR⟩
      · have e1 := e1.symm; have eL := eL.symm; have eR := eR.symm
        subst e1; subst eL; subst eR
        have fI : ∀ a k, a ≠ 8 + s.toNatClampNeg → a ≠ 0 → I1 a k = I a k := fun a k z1 z2 => by rw [eI, u1_o z1, forgI_at z2]
        have g105 : I1 (81 + 24) t.toNatClampNeg = I (81 + 24) t.toNatClampNeg := fI _ _ (by omega) (by omega)
        have g106 : I1 (81 + 25) t.toNatClampNeg = I (81 + 25) t.toNatClampNeg := fI _ _ (by omega) (by omega)
        have g107 : I1 (81 + 26) = I (81 + 26) := funext fun k => fI _ _ (by omega) (by omega)
        refine ⟨rfl, _, e0, _, c_X8_rises (I := I1) hR.2.2 (fun j hj => by rw [fI _ _ (by omega) (by omega)]; exact hsz j hj) s t l i n, fun r2 sh2 I2 L2 R2 hp2 => ?_⟩
        rw [g105, g106, g107] at hp2
        rcases hp2 with ⟨m0, hp2⟩ | ⟨m0, hp2⟩
        · rcases hp2 with ⟨m1, hp2⟩ | ⟨m1, hp2⟩
          · exact absurd (c1.symm.trans (q1.trans m1)) (by decide)
          · rcases hp2 with ⟨m2, d0, d1, dI, dL, dR⟩ | ⟨m2, hp2⟩
            · have dI := dI.symm; have dL := dL.symm; have dR := dR.symm
              subst dL; subst dR; subst dI
              refine ⟨d1, d0, ?_⟩
              have hall := allB_t c2
              subst eI
              refine JJ_rws (g := fun k => I ((73 + 2 * t.toNatClampNeg) + 1) (i.toNatClampNeg + k)) (n := n.toNatClampNeg) a hR h1 h2 h3 h4 h5 ls (by omega) (fun k hk => k_isW (hall k hk) rfl rfl) (fun k hk => ?_) (fun j hj => ?_)
              · show (if k < n.toNatClampNeg then _ else _) = _
                rfl
              · show (if 13 * s.toNatClampNeg ≤ j ∧ j < 13 * s.toNatClampNeg + n.toNatClampNeg then I (81 + 26) _ else u1 (forgI I) (8 + s.toNatClampNeg) _ (81 + 6) j) = _
                by_cases z : 13 * s.toNatClampNeg ≤ j ∧ j < 13 * s.toNatClampNeg + n.toNatClampNeg
                · rw [if_pos z, if_pos z]
                  have := gi (i.toNatClampNeg + (j - 13 * s.toNatClampNeg)) (by omega)
                  rw [show 13 * t.toNatClampNeg + i.toNatClampNeg + (j - 13 * s.toNatClampNeg) = 13 * t.toNatClampNeg + (i.toNatClampNeg + (j - 13 * s.toNatClampNeg)) by omega, show 73 + 2 * t.toNatClampNeg + 1 = 74 + 2 * t.toNatClampNeg by omega]
                  exact this
                · rw [if_neg z, if_neg z, u1_o (by omega), forgI_at (by decide)]
            · exact absurd (c2.symm.trans (q2.trans m2)) (by decide)
        · exact absurd (c0.symm.trans m0) (by decide)
      · have e1 := e1.symm; have eI := eI.symm; have eL := eL.symm; have eR := eR.symm
        subst e1; subst eI; subst eL; subst eR
        refine ⟨rfl, _, e0, _, c_X8_rises (I := I) hR.2.2 hsz s t l i n, fun r2 sh2 I2 L2 R2 hp2 => ?_⟩
        rcases hp2 with ⟨m0, hp2⟩ | ⟨m0, hp2⟩
        · rcases hp2 with ⟨m1, hp2⟩ | ⟨m1, hp2⟩
          · exact absurd (c1.symm.trans (q1.trans m1)) (by decide)
          · rcases hp2 with ⟨m2, hp2⟩ | ⟨m2, d0, d1, dI, dL, dR⟩
            · exact absurd (c2.symm.trans (q2.trans m2)) (by decide)
            · have dI := dI.symm; have dL := dL.symm; have dR := dR.symm
              subst dI; subst dL; subst dR
              exact ⟨d1, d0, hJ0⟩
        · exact absurd (c0.symm.trans m0) (by decide)
  · have e1 := e1.symm; have eI := eI.symm; have eL := eL.symm; have eR := eR.symm
    subst e1; subst eI; subst eL; subst eR
    refine ⟨rfl, _, e0, _, c_X8_rises (I := I) hR.2.2 hsz s t l i n, fun r2 sh2 I2 L2 R2 hp2 => ?_⟩
    rcases hp2 with ⟨m0, hp2⟩ | ⟨m0, d0, d1, dI, dL, dR⟩
    · exact absurd (c0.symm.trans m0) (by decide)
    · have dI := dI.symm; have dL := dL.symm; have dR := dR.symm
      subst dI; subst dL; subst dR
      exact ⟨d1, d0, hJ0⟩
/-- behind what the class is asked: all stands for the model -/
theorem obs_M {I1 : IM} {L1 : LM} {A : LA} (a : okA A) (h1 : JA I A) (h5 : JZ I) (f : frB I I1) : MSm I1 81 A := by
  have hm := (JA_fr (I' := I1) h1 (fun a k c => f a k (by omega) (by omega))).2.1
  exact ms_0 a hm (JZ_fr (I' := I1) h5 (fun a k c => f a k (by omega) (by omega))).2
theorem obs_J {I1 I2 : IM} {L1 L2 : LM} {A : LA} {lo hi : Int} {T : Nat} (a : okA A) (hR : JR sh R) (h1 : JA I A) (h2 : JB I lo hi) (h3 : JT I T) (h4 : JS I) (h5 : JZ I) (h6 : CPl I A lo hi) (f : frB I I1) (hre : CRest I1 L1 A) (g : frMI 81 I1 I2) (gL : frML 81 L1 L2) : JJ sh I2 L2 R :=
  JJ_fr a hR h1 h2 h3 h4 h5 h6 (CRest_fr hre (fun a k c1 c2 => g a k (by omega) (by omega) (by omega) (by omega) (by omega) (by omega)) (fun k hk => g 0 k (by omega) (by omega) (by omega) (by omega) (by omega) (by omega)) (fun a k c1 c2 => gL a k (by omega))) (fun a k c => by
    unfold Rel at c
    rw [g a k (by omega) (by omega) (by omega) (by omega) (by omega) (by omega), f a k (by omega) (by omega)])
/-- answers that are told alike -/
def oneA (P : Option Value → Prop) : Prop := ∀ r r2, P r → P r2 → r = r2
theorem one_if {c : Bool} {P Q : Option Value → Prop} (h1 : oneA P) (h2 : oneA Q) : oneA (fun r => ifA c (P r) (Q r)) := fun r r2 p q => by
  rcases p with ⟨c1, p⟩ | ⟨c1, p⟩ <;> rcases q with ⟨c2, q⟩ | ⟨c2, q⟩
  · exact h1 r r2 p q
  · rw [c1] at c2; cases c2
  · rw [c1] at c2; cases c2
  · exact h2 r r2 p q
theorem one_eq {v : Option Value} : oneA (fun r => r = v) := fun r r2 p q => p.trans q.symm
theorem one_rs {A : LA} {st : Nat} {P : Nat → Option Value} {Q : Option Value} : oneA (fun r => rsA A st (fun c => r = P c) (r = Q)) := fun r r2 p q => by
  rcases p with ⟨c, hc, p⟩ | ⟨hn, p⟩ <;> rcases q with ⟨d, hd, q⟩ | ⟨hm, q⟩
  · rw [p, q, fir_u hc hd]
  · exact (fir_non hc hm).elim
  · exact (fir_non hd hn).elim
  · rw [p, q]
theorem one_rj {A : LA} {st p : Nat} {v : Int} {P : Nat → Option Value} {Q : Option Value} : oneA (fun r => rsJ A st p v (fun c => r = P c) (r = Q)) := fun r r2 p q => by
  rcases p with ⟨c, hc, p⟩ | ⟨hn, p⟩ <;> rcases q with ⟨d, hd, q⟩ | ⟨hm, q⟩
  · rw [p, q, fir_u hc hd]
  · exact (fir_non hc hm).elim
  · exact (fir_non hd hn).elim
  · rw [p, q]
theorem one_b {X : Prop} : oneA (fun r => ∃ bb : Bool, r = some (Value.int (bI bb)) ∧ (bb = true ↔ X)) := fun r r2 ⟨b, p, hb⟩ ⟨d, q, hd⟩ => by
  have : b = d := by
    cases b <;> cases d
    · rfl
    · exact absurd (hb.mpr (hd.mp rfl)) (by decide)
    · exact absurd (hd.mpr (hb.mp rfl)) (by decide)
    · rfl
  rw [p, q, this]
/-- of a kind -/
def intA (P : Option Value → Prop) : Prop := ∀ r, P r → ∃ x : Int32, r = some (.int x)
def lngA (P : Option Value → Prop) : Prop := ∀ r, P r → ∃ x : Int64, r = some (.long x)
theorem int_if {c : Bool} {P Q : Option Value → Prop} (h1 : intA P) (h2 : intA Q) : intA (fun r => ifA c (P r) (Q r)) := fun r p => by
  rcases p with ⟨_, p⟩ | ⟨_, p⟩
  · exact h1 r p
  · exact h2 r p
theorem lng_if {c : Bool} {P Q : Option Value → Prop} (h1 : lngA P) (h2 : lngA Q) : lngA (fun r => ifA c (P r) (Q r)) := fun r p => by
  rcases p with ⟨_, p⟩ | ⟨_, p⟩
  · exact h1 r p
  · exact h2 r p
theorem int_eq {x : Int32} : intA (fun r => r = some (.int x)) := fun r p => ⟨x, p⟩
theorem lng_eq {x : Int64} : lngA (fun r => r = some (.long x)) := fun r p => ⟨x, p⟩
theorem lng_rf {x : Int32} : lngA (fun r => r = refL x) := fun r p => ⟨_, p⟩
theorem int_rs {A : LA} {st : Nat} {P : Nat → Int32} {q : Int32} : intA (fun r => rsA A st (fun c => r = some (.int (P c))) (r = some (.int q))) := fun r p => by
  rcases p with ⟨c, _, p⟩ | ⟨_, p⟩
  · exact ⟨_, p⟩
  · exact ⟨_, p⟩
theorem lng_rs {A : LA} {st : Nat} {P : Nat → Int64} {q : Int32} : lngA (fun r => rsA A st (fun c => r = some (.long (P c))) (r = refL q)) := fun r p => by
  rcases p with ⟨c, _, p⟩ | ⟨_, p⟩
  · exact ⟨_, p⟩
  · exact ⟨_, p⟩
theorem lng_rj {A : LA} {st p : Nat} {v : Int} {P : Nat → Int64} {q : Int32} : lngA (fun r => rsJ A st p v (fun c => r = some (.long (P c))) (r = refL q)) := fun r p => by
  rcases p with ⟨c, _, p⟩ | ⟨_, p⟩
  · exact ⟨_, p⟩
  · exact ⟨_, p⟩
theorem int_b {X : Prop} : intA (fun r => ∃ bb : Bool, r = some (Value.int (bI bb)) ∧ (bb = true ↔ X)) := fun r ⟨b, p, _⟩ => ⟨_, p⟩
/-- a question, asked of both -/
theorem ask_l {A : LA} {lo hi : Int} {T : Nat} {M1 M2 : PMd} {as : List Value} {P P2 : Option Value → Prop} (a : okA A) (hR : JR sh R) (h1 : JA I A) (h2 : JB I lo hi) (h3 : JT I T) (h4 : JS I) (h5 : JZ I) (h6 : CPl I A lo hi)
    (c1 : PMet M1 (.ref 0 :: as) sh I L R (obs sh I L R A P)) (c2 : ∀ I1 L1, frB I I1 → PMet M2 (.ref 81 :: as) sh I1 L1 R (obM sh I1 L1 R 81 P2)) (ho : oneA P) (hl : lngA P) (hp2 : ∀ r, P2 r → P r) : JMl sh I L R M1 M2 as := by
  refine ⟨_, c1, fun r sh1 I1 L1 R1 hp => ?_⟩
  obtain ⟨e1, eR, f, fL, hre, hP⟩ := hp
  have e1' := e1.symm
  have eR := eR.symm
  subst e1'; subst eR
  obtain ⟨x, hx⟩ := hl r hP
  refine ⟨rfl, x, hx, _, c2 I1 L1 f, fun r2 sh2 I2 L2 R2 hq => ?_⟩
  obtain ⟨d1, dR, g, gL, hQ⟩ := hq
  have d1 := d1.symm
  have dR := dR.symm
  subst d1; subst dR
  exact ⟨rfl, (ho r2 r (hp2 r2 hQ) hP).trans hx, obs_J a hR h1 h2 h3 h4 h5 h6 f hre g gL⟩
theorem ask_i {A : LA} {lo hi : Int} {T : Nat} {M1 M2 : PMd} {as : List Value} {P P2 : Option Value → Prop} (a : okA A) (hR : JR sh R) (h1 : JA I A) (h2 : JB I lo hi) (h3 : JT I T) (h4 : JS I) (h5 : JZ I) (h6 : CPl I A lo hi)
    (c1 : PMet M1 (.ref 0 :: as) sh I L R (obs sh I L R A P)) (c2 : ∀ I1 L1, frB I I1 → PMet M2 (.ref 81 :: as) sh I1 L1 R (obM sh I1 L1 R 81 P2)) (ho : oneA P) (hl : intA P) (hp2 : ∀ r, P2 r → P r) : JMi sh I L R M1 M2 as := by
  refine ⟨_, c1, fun r sh1 I1 L1 R1 hp => ?_⟩
  obtain ⟨e1, eR, f, fL, hre, hP⟩ := hp
  have e1' := e1.symm
  have eR := eR.symm
  subst e1'; subst eR
  obtain ⟨x, hx⟩ := hl r hP
  refine ⟨rfl, x, hx, _, c2 I1 L1 f, fun r2 sh2 I2 L2 R2 hq => ?_⟩
  obtain ⟨d1, dR, g, gL, hQ⟩ := hq
  have d1 := d1.symm
  have dR := dR.symm
  subst d1; subst dR
  exact ⟨rfl, (ho r2 r (hp2 r2 hQ) hP).trans hx, obs_J a hR h1 h2 h3 h4 h5 h6 f hre g gL⟩
theorem j_load (hJ : JJ sh I L R) (v b w : Int32) : JMl sh I L R M_X7_load M_X8_load [.int v, .int b, .int w] := by
  obtain ⟨A, lo, hi, T, a, hR, h1, h2, h3, h4, h5, h6, h7⟩ := hJ
  exact ask_l a hR h1 h2 h3 h4 h5 h6 (c_X7_load hR.1 h1.1 a h7 v b w) (fun I1 L1 f => c_X8_load hR.2.2 (obs_M (L1 := L1) a h1 h5 f) a v b w) (one_if one_rs one_eq) (lng_if lng_rs lng_rf) (fun r h => h)
theorem j_lifted (hJ : JJ sh I L R) (v : Int32) : JMi sh I L R M_X7_lifted M_X8_lifted [.int v] := by
  obtain ⟨A, lo, hi, T, a, hR, h1, h2, h3, h4, h5, h6, h7⟩ := hJ
  exact ask_i a hR h1 h2 h3 h4 h5 h6 (c_X7_lifted hR.1 h1.1 a h7 v) (fun I1 L1 f => c_X8_lifted hR.2.2 (obs_M (L1 := L1) a h1 h5 f) a v) (one_if one_rs one_eq) (int_if int_rs int_eq) (fun r h => h)
theorem j_high (hJ : JJ sh I L R) (v p w : Int32) : JMl sh I L R M_X7_high M_X8_high [.int v, .int p, .int w] := by
  obtain ⟨A, lo, hi, T, a, hR, h1, h2, h3, h4, h5, h6, h7⟩ := hJ
  exact ask_l a hR h1 h2 h3 h4 h5 h6 (c_X7_high hR.1 h1.1 a h7 v p w) (fun I1 L1 f => c_X8_high hR.2.2 (obs_M (L1 := L1) a h1 h5 f) a v p w) (one_if one_rs one_eq) (lng_if lng_rs lng_rf) (fun r h => h)
theorem j_through (hJ : JJ sh I L R) (v b w : Int32) : JMl sh I L R M_X7_through M_X8_through [.int v, .int b, .int w] := by
  obtain ⟨A, lo, hi, T, a, hR, h1, h2, h3, h4, h5, h6, h7⟩ := hJ
  exact ask_l a hR h1 h2 h3 h4 h5 h6 (c_X7_through hR.1 h1.1 a h7 v b w) (fun I1 L1 f => c_X8_through hR.2.2 (obs_M (L1 := L1) a h1 h5 f) a v b w) (one_if (one_if one_eq one_eq) one_eq) (lng_if (lng_if lng_eq lng_rf) lng_rf) (fun r h => h)
theorem j_table (hJ : JJ sh I L R) (x b w : Int32) : JMl sh I L R M_X7_table M_X8_table [.int x, .int b, .int w] := by
  obtain ⟨A, lo, hi, T, a, hR, h1, h2, h3, h4, h5, h6, h7⟩ := hJ
  exact ask_l a hR h1 h2 h3 h4 h5 h6 (c_X7_table hR.1 h1.1 a h7 x b w) (fun I1 L1 f => c_X8_table hR.2.2 (obs_M (L1 := L1) a h1 h5 f) a x b w) (one_if (one_if one_eq one_eq) one_eq) (lng_if (lng_if lng_eq lng_rf) lng_rf) (fun r h => h)
theorem j_coupling (hJ : JJ sh I L R) (v p u w : Int32) : JMl sh I L R M_X7_coupling M_X8_coupling [.int v, .int p, .int u, .int w] := by
  obtain ⟨A, lo, hi, T, a, hR, h1, h2, h3, h4, h5, h6, h7⟩ := hJ
  exact ask_l a hR h1 h2 h3 h4 h5 h6 (c_X7_coupling hR.1 h1.1 a h7 v p u w) (fun I1 L1 f => c_X8_coupling hR.2.2 (obs_M (L1 := L1) a h1 h5 f) a v p u w) (one_if (one_if one_eq one_eq) one_eq) (lng_if (lng_if lng_eq lng_rf) lng_rf) (fun r h => h)
theorem j_jack (hJ : JJ sh I L R) (s p v w : Int32) : JMl sh I L R M_X7_jack M_X8_jack [.int s, .int p, .int v, .int w] := by
  obtain ⟨A, lo, hi, T, a, hR, h1, h2, h3, h4, h5, h6, h7⟩ := hJ
  refine ask_l (P2 := fun ret => ifA (isW s 0 3 && isW p 0 12 && isW w 0 1 && isW v (-90) 90 && (srch (I 2) p (aN A)).isNone) (rsJ A s.toNatClampNeg p.toNatClampNeg v.toInt (fun c => ret = some (.long (ansL (qJk A s.toNatClampNeg p.toNatClampNeg v.toInt c) w))) (ret = refL (-2))) (ret = refL (-1))) a hR h1 h2 h3 h4 h5 h6 (c_X7_jack hR.1 h1.1 a h7 s p v w) (fun I1 L1 f => ?_) (one_if one_rj one_eq) (lng_if lng_rj lng_rf) (fun r h => h)
  have hs := obs_M (L1 := L1) a h1 h5 f
  have e : (srch (I 2) p (aN A)).isNone = (srch (I1 (81 + 1)) p (aN A)).isNone := congrArg Option.isNone (srch_congr (fun k hk => (h1.1.2.1 k hk).trans (hs.2.1 k hk).symm))
  rw [e]
  exact c_X8_jack hR.2.2 hs a s p v w
theorem j_fits (hJ : JJ sh I L R) (v : Int32) : JMi sh I L R M_X7_fits M_X8_fits [.int v] := by
  obtain ⟨A, lo, hi, T, a, hR, h1, h2, h3, h4, h5, h6, h7⟩ := hJ
  exact ask_i a hR h1 h2 h3 h4 h5 h6 (c_X7_fits hR.1 h1.1 a h7 h2.1 v) (fun I1 L1 f => c_X8_fits hR.2.2 (obs_M (L1 := L1) a h1 h5 f) a (JB_fr (I' := I1) h2 (fun a k c => f a k (by omega) (by omega))).2 v) (one_if one_b one_eq) (int_if int_b int_eq) (fun r h => h)
theorem j_whirl (hJ : JJ sh I L R) : JMi sh I L R M_X7_whirl M_X8_whirl [] := by
  obtain ⟨A, lo, hi, T, a, hR, h1, h2, h3, h4, h5, h6, h7⟩ := hJ
  refine ask_i (P2 := fun ret => ifA (decide (2 ≤ aN A)) (ret = some (.int (whA (I 6) (fun p => depQ (atzA A zerH (wCut A 0 13) p))))) (ret = some (.int (-2)))) a hR h1 h2 h3 h4 h5 h6 (c_X7_whirl hR.1 h1.1 a h7) (fun I1 L1 f => ?_) (one_if one_eq one_eq) (int_if int_eq int_eq) (fun r h => h)
  have h1' := JA_fr (I' := I1) h1 (fun a k c => f a k (by omega) (by omega))
  have e : whA (I 6) (fun p => depQ (atzA A zerH (wCut A 0 13) p)) = whA (I1 (81 + 5)) (fun p => depQ (atzA A zerH (wCut A 0 13) p)) := whA_congr (fun p hp => ⟨by rw [J_sum h1 p hp]; exact (f 86 p (by omega) (by omega)).symm, rfl⟩)
  rw [e]
  exact c_X8_whirl hR.2.2 (obs_M (L1 := L1) a h1 h5 f) a
end J6
