/-! plans, texts that are read, runs: class and model alike -/
section J7
variable {sh : Sh} {I I' : IM} {L L' : LM} {R R' : RM} {A : LA} {lo hi : Int} {T : Nat}
theorem JR_fr (h : JR sh R) (f : ∀ a k, (a ≠ 61 ∨ k ≠ 2) → (a ≠ 13 ∨ k ≠ 1) → R' a k = R a k) : JR sh R' := by
  obtain ⟨h1, ⟨r1, r2, r3, r4⟩, h3⟩ := h
  refine ⟨ClsF_R h1 (fun a k c1 c2 => f a k c2 (Or.inl c1)), ⟨r1, by rw [f 13 0 (by decide) (by decide)]; exact r2, LineF_R r3 (fun k => f 14 k (by omega) (by omega)), r4⟩, ?_⟩
  obtain ⟨f0, f1, f2, f3, f4, f5, f6, f7, f8, f9, f10, f11, f12, f13, f14, f15, f16, f17, f18, f19, f20, f21, f22, f23, f24, f25, f26, f27, g⟩ := h3
  have e : R' 81 = R 81 := funext fun k => f 81 k (by omega) (by omega)
  unfold ModF
  rw [e]
  exact ⟨f0, f1, f2, f3, f4, f5, f6, f7, f8, f9, f10, f11, f12, f13, f14, f15, f16, f17, f18, f19, f20, f21, f22, f23, f24, f25, f26, f27, g⟩
/-- a plan, asked of both -/
theorem ask_p {M1 M2 : PMd} {as : List Value} {P : Option Value → Prop} (a : okA A) (hR : JR sh R) (h1 : JA I A) (h2 : JB I lo hi) (h3 : JT I T) (h4 : JS I) (h5 : JZ I)
    (c1 : PMet M1 (.ref 0 :: as) sh I L R (plnP sh I L R A lo hi P)) (c2 : ∀ I1 L1 R1, ModF sh R1 81 → MLn I1 81 A → LHm I1 81 lo hi → (∀ k, k < 6 → I1 (81 + 22) k = 0) → PMet M2 (.ref 81 :: as) sh I1 L1 R1 (plM sh I1 L1 R1 81 P)) (ho : oneA P) (hl : intA P) : JMi sh I L R M1 M2 as := by
  refine ⟨_, c1, fun r sh1 I1 L1 R1 hp => ?_⟩
  obtain ⟨e1, fR, f, fL, hre, hcp, hP⟩ := hp
  have e1 := e1.symm
  subst e1
  have hR1 : JR sh R1 := JR_fr hR (fun a k c1 _ => fR a k c1)
  have k1 := JA_fr (I' := I1) h1 (fun a k c => f a k (by omega) (by omega))
  have k2 := JB_fr (I' := I1) h2 (fun a k c => f a k (by omega) (by omega))
  have k3 := JT_fr (I' := I1) h3 (fun a k c => f a k (by omega) (by omega))
  have k4 := JS_fr (I' := I1) h4 (fun a k c => f a k (by omega) (by omega))
  have k5 := JZ_fr (I' := I1) h5 (fun a k c => f a k (by omega) (by omega))
  obtain ⟨x, hx⟩ := hl r hP
  refine ⟨rfl, x, hx, _, c2 I1 L1 R1 hR1.2.2 k1.2.1 k2.2 k5.2, fun r2 sh2 I2 L2 R2 hq => ?_⟩
  obtain ⟨d1, dR, g, gL, hz, hQ⟩ := hq
  have d1 := d1.symm
  have dR := dR.symm
  subst d1; subst dR
  refine ⟨rfl, (ho r2 r hQ hP).trans hx, A, lo, hi, T, a, hR1, JA_fr k1 (fun a k c => g a k (by omega) (by omega) (by omega) (by omega) (by omega) (by omega) (by omega) (by omega)), JB_fr k2 (fun a k c => g a k (by omega) (by omega) (by omega) (by omega) (by omega) (by omega) (by omega) (by omega)), JT_fr k3 (fun a k c => g a k (by omega) (by omega) (by omega) (by omega) (by omega) (by omega) (by omega) (by omega)), JS_fr k4 (fun a k c => g a k (by omega) (by omega) (by omega) (by omega) (by omega) (by omega) (by omega) (by omega)), ⟨fun p hp => ?_, hz⟩, JP_fr hcp (fun a k c => g a k (by omega) (by omega) (by omega) (by omega) (by omega) (by omega) (by omega) (by omega)), CRest_fr hre (fun a k _ _ => g a k (by omega) (by omega) (by omega) (by omega) (by omega) (by omega) (by omega) (by omega)) (fun k _ => g 0 k (by omega) (by omega) (by omega) (by omega) (by omega) (by omega) (by omega) (by omega)) (fun a k _ _ => gL a k (by omega))⟩
  rw [g 70 p (by omega) (by omega) (by omega) (by omega) (by omega) (by omega) (by omega) (by omega)]
  exact k5.1 p hp
theorem one_mv {v : Int32} {b : Nat} : oneA (fun r => movA A lo hi v b r) := fun r r2 p q => by
  rcases p with ⟨h4, t, e, p⟩ | ⟨hn, p⟩ <;> rcases q with ⟨k4, u, d, q⟩ | ⟨hm, q⟩
  · rw [e] at d
    cases d
    rw [p, q]
  · rw [hm h4] at e; cases e
  · rw [hn k4] at d; cases d
  · rw [p, q]
theorem int_mv {v : Int32} {b : Nat} : intA (fun r => movA A lo hi v b r) := fun r p => by
  rcases p with ⟨_, t, _, p⟩ | ⟨_, p⟩
  · exact ⟨_, p⟩
  · exact ⟨_, p⟩
theorem j_plan (hJ : JJ sh I L R) (v : Int32) : JMi sh I L R M_X7_plan M_X8_plan [.int v] := by
  obtain ⟨A, lo, hi, T, a, hR, h1, h2, h3, h4, h5, h6, h7⟩ := hJ
  exact ask_p a hR h1 h2 h3 h4 h5 (c_X7_plan hR.1 h1.1 a h7 h2.1 h6 h5.1 v) (fun I1 L1 R1 hM hm hl hz => c_X8_plan hM hm a hl hz v) (one_if one_eq one_eq) (int_if int_eq int_eq)
theorem j_move (hJ : JJ sh I L R) (v b : Int32) : JMi sh I L R M_X7_move M_X8_move [.int v, .int b] := by
  obtain ⟨A, lo, hi, T, a, hR, h1, h2, h3, h4, h5, h6, h7⟩ := hJ
  exact ask_p a hR h1 h2 h3 h4 h5 (c_X7_move hR.1 h1.1 a h7 h2.1 h6 h5.1 v b) (fun I1 L1 R1 hM hm hl hz => c_X8_move hM hm a hl hz v b) (one_if one_mv one_eq) (int_if int_mv int_eq)
theorem j_read (hJ : JJ sh I L R) : JMi sh I L R M_X7_read M_X8_read [] := by
  obtain ⟨A, lo, hi, T, a, hR, h1, h2, h3, h4, h5, h6, h7⟩ := hJ
  refine ⟨_, c_X7_read hR.1 hR.2.1 h3.1 h3.2.2.1, fun r sh1 I1 L1 R1 hp => ?_⟩
  obtain ⟨e1, eR, eL, e03, f, hP⟩ := hp
  have e1 := e1.symm
  have eL := eL.symm
  subst e1; subst eL
  have hR1 : JR sh R1 := by
    rw [eR]
    exact JR_fr hR (fun a k _ c => by unfold u2; rw [if_neg (by omega)])
  clear eR
  have f81 : ∀ a k, 80 < a → I1 a k = I a k := fun a k c => f a k (by omega)
  have e88 : I1 (81 + 7) = I 12 := funext fun k => by rw [f81 _ _ (by omega)]; exact (h3.2.2.2.1 k).symm
  have h9 : I1 81 9 = nI T := by rw [f81 _ _ (by omega)]; exact h3.2.1
  have hch : ∀ k, k < T → ¬ I1 (81 + 7) k = 0 := fun k hk => by rw [f81 _ _ (by omega)]; exact h3.2.2.2.2 k hk
  obtain ⟨l1, l2, hW, hF, hRi, hWR⟩ := JA_un h1
  rcases hP with ⟨e, D, hx, okd, hr, n9, n14, hl, hwr, hw, hf⟩ | ⟨e, hx, hr, fI⟩
  · refine ⟨rfl, _, hr, _, c_X8_read hR1.2.2 h9 h3.2.2.1 hch, fun r2 sh2 I2 L2 R2 hq => ?_⟩
    obtain ⟨d1, dR, dL, d9, g, hQ⟩ := hq
    have d1 := d1.symm; have dR := dR.symm; have dL := dL.symm
    subst d1; subst dR; subst dL
    rw [e88] at hQ
    rcases hQ with ⟨e', D', hx', okd', hr', hl', hw', hf'⟩ | ⟨e', hx', _⟩
    · rw [hx] at hx'
      have hD : D = D' := Option.some.inj (Prod.mk.inj hx').2
      subst hD
      have a' : okA ((foldI D.1).1, (foldI D.1).2.1, (foldI D.1).2.2, D.2.1, (if 0 < D.2.2 then D.2.2 else aF A), aR A) := by
        have h8 := okd.2.2.2.2
        refine ⟨okd.1.1, okd.1.2.1, okd.1.2.2, okd.2.2.2.1, ?_, ?_, a.2.2.2.2.2.2⟩
        · show 1 ≤ (if 0 < D.2.2 then D.2.2 else aF A)
          split
          · omega
          · exact a.2.2.2.2.1
        · show (if 0 < D.2.2 then D.2.2 else aF A) ≤ 20
          split
          · omega
          · exact a.2.2.2.2.2.1
      refine ⟨rfl, hr', _, lo, hi, 0, a', hR1, JA_mk (lin_fr (I' := I2) hl (fun a k c => g a k (by omega))) hl'.1 (fun p hp => ⟨?_, hw' p hp⟩) ⟨?_, ?_⟩ (fun s hs p hp => ⟨?_, ?_⟩) (fun k hk => ?_), JB_fr h2 (fun a k c => ?_), ⟨?_, d9, Nat.zero_le _, fun k => ?_, fun k hk => absurd hk (Nat.not_lt_zero _)⟩, JS_fr h4 (fun a k c => ?_), JZ_fr h5 (fun a k c => ?_), Or.inl ?_, Or.inl ?_⟩
      · rw [g 6 p (by omega)]; exact hw p hp
      · rw [g 1 6 (by omega), hf]
        show _ = (if 0 < D.2.2 then D.2.2 else aF A)
        rw [hF.1]
      · rw [hf', f81 81 7 (by omega)]
        show _ = (if 0 < D.2.2 then D.2.2 else aF A)
        rw [hF.2]
      · rw [g (8 + s) p (by omega), f (8 + s) p (by omega)]; exact (hRi s hs p hp).1
      · rw [g 87 _ (by omega), f81 87 _ (by omega)]; exact (hRi s hs p hp).2
      · have hk : k < (foldI D.1).1 := hk
        have z1 := hwr k hk
        have z2 := hl'.2 k hk
        rw [g 4 k (by omega), g 5 k (by omega)]
        show I1 4 k = I2 (81 + 3) k ∧ I1 5 k = I2 (81 + 4) k ∧ _
        rw [z1.1, z1.2, z2.1, z2.2]
        exact ⟨rfl, rfl, by decide, by decide⟩
      · rw [g a k (by omega), f a k (by omega)]
      · rw [g 0 3 (by omega)]; exact e03
      · rw [g 12 k (by omega), f 12 k (by omega), g 88 k (by omega), f81 88 k (by omega)]; exact h3.2.2.2.1 k
      · rw [g a k (by omega), f a k (by omega)]
      · rw [g a k (by omega), f a k (by omega)]
      · rw [g 0 14 (by omega)]; exact n14
      · rw [g 0 9 (by omega)]; exact n9
    · rw [hx] at hx'
      cases (Prod.mk.inj hx').2
  · refine ⟨rfl, _, hr, _, c_X8_read hR1.2.2 h9 h3.2.2.1 hch, fun r2 sh2 I2 L2 R2 hq => ?_⟩
    obtain ⟨d1, dR, dL, d9, g, hQ⟩ := hq
    have d1 := d1.symm; have dR := dR.symm; have dL := dL.symm
    subst d1; subst dR; subst dL
    rw [e88] at hQ
    rcases hQ with ⟨e', D', hx', _⟩ | ⟨e', hx', hr', z0, z7, gI⟩
    · rw [hx] at hx'
      cases (Prod.mk.inj hx').2
    · rw [hx] at hx'
      have he : e = e' := (Prod.mk.inj hx').1
      subst he
      have ff : ∀ a k, (a < 13 ∨ 19 < a) → (a ≠ 0 ∨ k ≠ 3) → (a < 81 ∨ (a = 81 ∧ (k = 0 ∨ k = 7 ∨ k = 37 ∨ k = 38)) ∨ (81 < a ∧ a < 89) ∨ 91 < a) → I2 a k = I a k := fun a k c1 c2 c3 => by
        have hI := fI a k c1 c2
        rw [← hI]
        rcases Nat.lt_or_ge a 81 with c | c
        · exact g a k (by omega)
        · by_cases c4 : a = 81
          · subst c4
            have : k = 0 ∨ k = 7 ∨ k = 37 ∨ k = 38 := by omega
            rcases this with rfl | rfl | rfl | rfl
            · exact z0
            · exact z7
            · exact g 81 37 (by omega)
            · exact g 81 38 (by omega)
          · by_cases c5 : a < 87
            · exact gI a k (by omega) c5
            · exact g a k (by omega)
      refine ⟨rfl, hr', A, lo, hi, 0, a, hR1, JA_fr h1 (fun a k c => ff a k (by omega) (by omega) (by omega)), JB_fr h2 (fun a k c => ff a k (by omega) (by omega) (by omega)), ⟨?_, d9, Nat.zero_le _, fun k => ?_, fun k hk => absurd hk (Nat.not_lt_zero _)⟩, JS_fr h4 (fun a k c => ff a k (by omega) (by omega) (by omega)), JZ_fr h5 (fun a k c => ff a k (by omega) (by omega) (by omega)), JP_fr h6 (fun a k c => ff a k (by omega) (by omega) (by omega)), CRest_fr h7 (fun a k _ _ => ff a k (by omega) (by omega) (by omega)) (fun k _ => ff 0 k (by omega) (by omega) (by omega)) (fun _ _ _ _ => rfl)⟩
      · rw [g 0 3 (by omega)]; exact e03
      · rw [ff 12 k (by omega) (by omega) (by omega), ff 88 k (by omega) (by omega) (by omega)]; exact h3.2.2.2.1 k
end J7
