set_option maxHeartbeats 4000000 in
set_option maxRecDepth 100000 in
theorem c_X3_prepareSets {sh : Sh} {I : IM} {L : LM} {R : RM} (hP : PlanF sh R 61) (hl1 : R 61 2 = some 1) (hL : LineF sh R 1) (hQ : RestF sh R 45) {A : LA} (hm : CLm I A) (a : okA A) (h4 : aN A ≤ 4) (h2n : 2 ≤ aN A) (hz : ∀ p, p < 13 → I 70 p = 0) : PMet M_X3_prepareSets [.ref 61, .ref 45] sh I L R (pnP sh I L R (aQ A) (stf A) (aN A)) := by
  refine PMet.of mf_X3_prepareSets (Nat.le_of_ble_eq_true rfl) ?_
  intro X h hr hml
  have hml : (xc X).maxLocals = 4 := hml
  have h : PXok X RX3 cX3_prepareSets 5 0 0 := h
  have hr : PXr X none "prepareSets" _ 0 0 := hr
  have hP0 := hP
  obtain ⟨p0, p1, p2, p3, p4, p5, p6, p7, p8, p9, r1, r7, r8, r9, r10, r11, r12, r13, r14⟩ := id hP
  obtain ⟨f0, f1, f2, f3, f4, f5, g1, g2, g3, g4, g5⟩ := id hL
  have hQ0 := hQ
  obtain ⟨q0, q1, hB45, q13, q14, q15, u2r, u3r, u4r⟩ := id hQ
  have k46 := hB45.1
  have hn := hm.1
  have h6 := a.1
  have ho1 : ordK (aN A) ≤ 11 := (ord_ok (aN A) h4).1
  have h128 : 2 ^ aN A ≤ 16 := (by have : 2 ^ aN A ≤ 2 ^ 4 := Nat.pow_le_pow_right (by decide) h4; omega)
  have hp2 : 0 < 2 ^ aN A := Nat.two_pow_pos _
  show PW X 0 [(0, .ref 61), (1, .ref 45)] [] sh I L R 0 0
  refine pw_aload_n h 0 d_X3_prepareSets_0 rfl ?_
  refine pw_iconst (x := 0) h d_X3_prepareSets_1 (by decide) ?_
  refine pw_putI 3 h d_X3_prepareSets_2 fd_RX3_33 (by assumption) rfl rfl rfl rfl ?_
  refine pw_iconst (x := 2) h d_X3_prepareSets_5 (by decide) ?_
  refine pw_nmI (fun v2_6 e2_6 => ?_)
  refine pw_istore_n (lv' := [(2, .int v2_6), (0, .ref 61), (1, .ref 45)]) h d_X3_prepareSets_6 rfl _ hml (by decide) rfl ?_
  have cut_7 : ∀ (N sz : Nat) (v : Int32) (I2 : IM), aN A + 1 < sz + N → 2 ≤ sz → sz ≤ aN A + 1 → v = nI sz → PS1 I2 (ordL (aN A) (sz - 2)) → frS I I2 → PW X 7 [(0, .ref 61), (1, .ref 45), (2, .int v)] [] sh I2 L R 0 0 := by
    intro N
    induction N with
    | zero => intros; omega
    | succ N ihz =>
      intro sz v I2 hN hz2 hzn ez hs2 fS2
      have hm2 : CLm I2 A := CLm_S hm fS2
      refine pw_iload_n h 2 d_X3_prepareSets_7 rfl ?_
      refine pw_aload_n h 0 d_X3_prepareSets_8 rfl ?_
      refine pw_getR (j := 1) 3 h d_X3_prepareSets_9 fd_RX3_19 (by assumption) rfl (by assumption) ?_
      refine pw_getI 2 h d_X3_prepareSets_12 fd_RX3_61 (by assumption) rfl ?_
      refine pw_icmp_gt 83 h d_X3_prepareSets_15 (by decide) (fun c_15 => ?_) (fun c_15 => ?_)
      · skip
        have hlt : aN A < sz := k_lt2 hm2.1 ez (by omega) (by omega) c_15
        have e9 : sz = aN A + 1 := by omega
        have hs2 : PSet I2 (aN A) := by rw [e9, show aN A + 1 - 2 = aN A - 1 by omega] at hs2; exact hs2
        refine pw_iconst (x := 0) h d_X3_prepareSets_83 (by decide) ?_
        refine pw_nmI (fun v2_84 e2_84 => ?_)
        refine pw_istore_n (lv' := [(2, .int v2_84), (0, .ref 61), (1, .ref 45)]) h d_X3_prepareSets_84 rfl _ hml (by decide) rfl ?_
        have cut_85 : ∀ (N k : Nat) (v : Int32) (I4 : IM) (L4 : LM), aN A < k + N → k ≤ aN A → v = nI k → PSet I4 (aN A) → frT I I4 → frTL L L4 → (∀ k2, k2 < k → PGk L4 (aQ A) (stf A) (aN A) k2 (ordK (aN A))) → (k = 0 ∨ PMem I4 L4 (aQ A) (aN A) (ordK (aN A))) → PW X 85 [(0, .ref 61), (1, .ref 45), (2, .int v)] [] sh I4 L4 R 0 0 := by
          intro N
          induction N with
          | zero => intros; omega
          | succ N ihk =>
            intro k v I4 L4 hNk hkn ek hs4 fT4 fTL4 hG4 hM4
            have hm4 : CLm I4 A := CLm_T hm fT4
            have hz4 : ∀ p, p < 13 → I4 70 p = 0 := fun p hp => by rw [fT4 70 p (by omega) (Or.inl (by decide)) (by decide) (by decide)]; exact hz p hp
            refine pw_iload_n h 2 d_X3_prepareSets_85 rfl ?_
            refine pw_aload_n h 0 d_X3_prepareSets_86 rfl ?_
            refine pw_getR (j := 1) 3 h d_X3_prepareSets_87 fd_RX3_19 (by assumption) rfl (by assumption) ?_
            refine pw_getI 2 h d_X3_prepareSets_90 fd_RX3_61 (by assumption) rfl ?_
            refine pw_icmp_ge 202 h d_X3_prepareSets_93 (by decide) (fun c_93 => ?_) (fun c_93 => ?_)
            · skip
              have hge := k_ge ek hm4.1 (by omega) (by omega) c_93
              have e9 : k = aN A := by omega
              refine pw_vret h hr d_X3_prepareSets_202 (by decide) (by decide) ?_
              exact ⟨rfl, rfl, rfl, fT4, fTL4, hs4, (hM4.resolve_left (by omega)), fun k2 hk2 => hG4 k2 (by omega)⟩
            · skip
              have hkl := k_lt ek hm4.1 (by omega) (by omega) c_93
              refine pw_aload_n h 1 d_X3_prepareSets_96 rfl ?_
              refine pw_aload_n h 0 d_X3_prepareSets_97 rfl ?_
              refine pw_getR (j := 1) 3 h d_X3_prepareSets_98 fd_RX3_19 (by assumption) rfl (by assumption) ?_
              refine pw_getI 2 h d_X3_prepareSets_101 fd_RX3_72 (by assumption) rfl ?_
              refine pw_aload_n h 0 d_X3_prepareSets_104 rfl ?_
              refine pw_getR (j := 70) 3 h d_X3_prepareSets_105 fd_RX3_58 (by assumption) rfl (by assumption) ?_
              refine pw_callV (As := [.int _, .ref 70]) h d_X3_prepareSets_108 mf_X5_start mi_X5_start ml_RX3_75 ⟨by decide, by decide, by decide⟩ (by assumption) rfl rfl (Nat.le_of_ble_eq_true rfl) trivial (c_X5_start hQ0 (w := 70) p9 _) ?_
              intro ret5 sh5 I5 L5 R5 hp5
              obtain ⟨e0, e1, eI, eL, eR⟩ := hp5
              subst e0
              have e1 := e1.symm
              have eR := eR.symm
              subst e1
              subst eR
              refine ⟨rfl, ?_⟩
              have hR5 : RestI I5 L5 45 0 (aQ A) (oneH k) zerW (stf A) := by rw [eI, eL]; exact st_row (w0 := 70) (by decide) (zer_car hz4) (cl_F hm4) _ _
              have fK5 : ∀ b k, (b < 45 ∨ 60 < b) → I5 b k = I4 b k := fun b k c => by rw [eI, u2_n1 (by omega), u2_n1 (by omega)]
              have fL5 : frKL L4 L5 := by rw [eL]; exact st_frL
              clear eI eL
              refine pw_iconst (x := 0) h d_X3_prepareSets_111 (by decide) ?_
              refine pw_nmI (fun v3_112 e3_112 => ?_)
              refine pw_istore_n (lv' := [(3, .int v3_112), (0, .ref 61), (1, .ref 45), (2, .int v)]) h d_X3_prepareSets_112 rfl _ hml (by decide) rfl ?_
              have cut_113 : ∀ (N i : Nat) (y : Int32) (I6 : IM), aN A < i + N → i ≤ aN A → y = nI i → (∀ b k, (b < 45 ∨ 60 < b) → I6 b k = I4 b k) → RestI I6 L5 45 i (aQ A) (oneH k) zerW (stf A) → PW X 113 [(0, .ref 61), (1, .ref 45), (2, .int v), (3, .int y)] [] sh I6 L5 R 0 0 := by
                intro N
                induction N with
                | zero => intros; omega
                | succ N ih =>
                  intro i y I6 hNi hi ei fK6 hR6
                  have hm6 : CLm I6 A := CLm_fr hm4 (fun b k h1 h2 => fK6 b k (by omega))
                  refine pw_iload_n h 3 d_X3_prepareSets_113 rfl ?_
                  refine pw_aload_n h 0 d_X3_prepareSets_114 rfl ?_
                  refine pw_getR (j := 1) 3 h d_X3_prepareSets_115 fd_RX3_19 (by assumption) rfl (by assumption) ?_
                  refine pw_getI 2 h d_X3_prepareSets_118 fd_RX3_61 (by assumption) rfl ?_
                  refine pw_icmp_ge 153 h d_X3_prepareSets_121 (by decide) (fun c_121 => ?_) (fun c_121 => ?_)
                  · skip
                    have hge := k_ge ei hm6.1 (by omega) (by omega) c_121
                    have e9 : i = aN A := by omega
                    rw [e9] at hR6
                    refine pw_iconst (x := 0) h d_X3_prepareSets_153 (by decide) ?_
                    refine pw_nmI (fun v3_154 e3_154 => ?_)
                    refine pw_istore_n (lv' := [(3, .int v3_154), (0, .ref 61), (1, .ref 45), (2, .int v)]) h d_X3_prepareSets_154 rfl _ hml (by decide) rfl ?_
                    have cut_155 : ∀ (N j : Nat) (z4 : Int32) (I8 : IM) (L8 : LM), ordK (aN A) < j + N → j ≤ ordK (aN A) → z4 = nI j → frQ I4 I8 → frQL 67 k L4 L8 → RestI I8 L8 45 (aN A) (aQ A) (oneH k) zerW (stf A) → PMem I8 L8 (aQ A) (aN A) j → PGk L8 (aQ A) (stf A) (aN A) k j → PW X 155 [(0, .ref 61), (1, .ref 45), (2, .int v), (3, .int z4)] [] sh I8 L8 R 0 0 := by
                      intro N
                      induction N with
                      | zero => intros; omega
                      | succ N ihj =>
                        intro j z4 I8 L8 hNj hjK ej fQ8 fQL8 hR8 hM8 hG8
                        have hm8 : CLm I8 A := CLm_Q hm4 fQ8
                        have hs8 := PSet_fr hs4 fQ8
                        refine pw_iload_n h 3 d_X3_prepareSets_155 rfl ?_
                        refine pw_aload_n h 0 d_X3_prepareSets_156 rfl ?_
                        refine pw_getI 3 h d_X3_prepareSets_157 fd_RX3_33 (by assumption) rfl ?_
                        refine pw_icmp_ge 196 h d_X3_prepareSets_160 (by decide) (fun c_160 => ?_) (fun c_160 => ?_)
                        · skip
                          have hge := k_ge ej hs8.1 (by omega) (by omega) c_160
                          have e8 : j = ordK (aN A) := by omega
                          rw [e8] at hM8 hG8
                          obtain ⟨v2_196, e2_196⟩ : ∃ z : Int32, z = v + (1) := ⟨_, rfl⟩
                          refine pw_iinc (lv' := [(2, .int v2_196), (0, .ref 61), (1, .ref 45), (3, .int z4)]) v2_196 h d_X3_prepareSets_196 2 rfl e2_196.symm _ hml (by decide) rfl ?_
                          refine pw_goto 85 h d_X3_prepareSets_199 (by decide) ?_
                          refine PW.perm [1, 2, 0] rfl ?_
                          exact ihk (k + 1) v2_196 _ _ (by omega) (by omega) (k_up e2_196 ek) (PSet_fr hs4 fQ8) (frT_Q fT4 fQ8) (frTL_Q fTL4 fQL8) (fun k2 hk2 => by
                            by_cases ck : k2 = k
                            · rw [ck]; exact hG8
                            · exact PGk_o (by omega) h4 ck (hG4 k2 (by omega)) fQL8) (Or.inr hM8)
                        · skip
                          have hj := k_lt ej hs8.1 (by omega) (by omega) c_160
                          have hxj := k_ix ej (show j < 11 by omega) (by decide)
                          refine pw_aload_n h 1 d_X3_prepareSets_163 rfl ?_
                          refine pw_aload_n h 0 d_X3_prepareSets_164 rfl ?_
                          refine pw_getR (j := 63) 3 h d_X3_prepareSets_165 fd_RX3_36 (by assumption) rfl (by assumption) ?_
                          refine pw_iload_n h 3 d_X3_prepareSets_168 rfl ?_
                          refine pw_iald h d_X3_prepareSets_169 (by assumption) (by assumption) ?_
                          refine pw_eqI (y := nI (ordN (aN A) j)) (hs8.2 j hj) ?_
                          refine pw_callV (As := [.int _]) h d_X3_prepareSets_170 mf_X5_lay mi_X5_lay ml_RX3_88 ⟨by decide, by decide, by decide⟩ (by assumption) rfl rfl (Nat.le_of_ble_eq_true rfl) trivial (c_X5_lay hQ0 (n := aN A) hR8.1 (by omega) (fun k hk => k_ix (hR8.2.1 k hk) (a.2.1.1 k hk) (by decide)) _) ?_
                          intro ret9 sh9 I9 L9 R9 hp9
                          obtain ⟨e0, e1, eI, eL, eR⟩ := hp9
                          subst e0
                          have e1 := e1.symm
                          have eR := eR.symm
                          subst e1
                          subst eR
                          refine ⟨rfl, ?_⟩
                          have hS9 := lay_S2 (c := nI (ordN (aN A) j)) a.2.1 (by omega) hR8
                          have hfr9 : ∀ b k, (b < 45 ∨ 60 < b) → I9 b k = I8 b k := by rw [eI]; exact lay_frq
                          have hfl9 : frKL L8 L9 := by rw [eL]; exact lay_frql
                          rw [← eI] at eL hS9
                          rw [← eL] at hS9
                          clear eI eL
                          refine pw_aload_n h 0 d_X3_prepareSets_173 rfl ?_
                          refine pw_aload_n h 1 d_X3_prepareSets_174 rfl ?_
                          refine pw_iload_n h 3 d_X3_prepareSets_175 rfl ?_
                          refine pw_aload_n h 0 d_X3_prepareSets_176 rfl ?_
                          refine pw_getR (j := 67) 3 h d_X3_prepareSets_177 fd_RX3_49 (by assumption) rfl (by assumption) ?_
                          refine pw_iload_n h 3 d_X3_prepareSets_180 rfl ?_
                          refine pw_iconst (x := 4) h d_X3_prepareSets_181 (by decide) ?_
                          refine pw_imul h d_X3_prepareSets_182 ?_
                          refine pw_iload_n h 2 d_X3_prepareSets_183 rfl ?_
                          refine pw_iadd h d_X3_prepareSets_184 ?_
                          refine pw_iconst (x := 4) h d_X3_prepareSets_185 (by decide) ?_
                          refine pw_imul h d_X3_prepareSets_186 ?_
                          refine pw_callV (As := [.ref 45, .int _, .ref 67, .int _]) h d_X3_prepareSets_187 mf_X3_keepMargins mi_X3_keepMargins ml_RX3_92 ⟨by decide, by decide, by decide⟩ (by assumption) rfl rfl (Nat.le_of_ble_eq_true rfl) trivial (c_X3_keepMargins hP0 hl1 hL hQ0 (n := aN A) ((hfr9 1 0 (by omega)).trans hm8.1) h4 a.2.1 hS9 (sN_2 h4 hj) (j := j) (K := 67) (fr := (j * 4 + k) * 4) (k_ix ej (by omega) (by decide)) (Or.inr rfl) p6 (ix_4 ej ek) (by omega)) ?_
                          intro ret10 sh10 I10 L10 R10 hp10
                          obtain ⟨e0, e1, eR, hk10⟩ := hp10
                          subst e0
                          have e1 := e1.symm
                          have eR := eR.symm
                          subst e1
                          subst eR
                          refine ⟨rfl, ?_⟩
                          have hD10 := lay_D hS9 (sN_2 h4 hj)
                          have hM9 := PMem_lay hM8 hfr9 hfl9
                          have hM10 := (PMem_s hM9 hk10 hD10 (Or.inr rfl)).2 rfl
                          have hG10 := PGk_s (by omega) h4 (PGk_lay hG8 hfl9) hk10
                          have fQ10 : frQ I4 I10 := frQ_t fQ8 (frQ_t (frQ_K hfr9) (kmS_frQ hk10))
                          have fQL10 : frQL 67 k L4 L10 := frQL_t fQL8 (frQL_t (frQL_K hfl9) (kmS_frQL (by omega) h4 hk10))
                          have hR10 := (km_rest (Or.inr rfl) hk10 hS9).1
                          obtain ⟨v3_190, e3_190⟩ : ∃ z : Int32, z = z4 + (1) := ⟨_, rfl⟩
                          refine pw_iinc (lv' := [(3, .int v3_190), (0, .ref 61), (1, .ref 45), (2, .int v)]) v3_190 h d_X3_prepareSets_190 3 rfl e3_190.symm _ hml (by decide) rfl ?_
                          refine pw_goto 155 h d_X3_prepareSets_193 (by decide) ?_
                          refine PW.perm [1, 2, 3, 0] rfl ?_
                          exact ihj (j + 1) v3_190 _ _ (by omega) (by omega) (k_up e3_190 ej) fQ10 fQL10 hR10 hM10 hG10
                    refine PW.perm [1, 2, 3, 0] rfl ?_
                    exact cut_155 (ordK (aN A) + 1) 0 v3_154 _ _ (by omega) (by omega) e3_154 (frQ_K fK6) (frQL_K fL5) hR6 (fun j hj => absurd hj (Nat.not_lt_zero _)) (fun j hj => absurd hj (Nat.not_lt_zero _))
                  · skip
                    have hlt := k_lt ei hm6.1 (by omega) (by omega) c_121
                    have hx6 := k_ix ei (show i < 6 by omega) (by decide)
                    refine pw_aload_n h 1 d_X3_prepareSets_124 rfl ?_
                    refine pw_aload_n h 0 d_X3_prepareSets_125 rfl ?_
                    refine pw_getR (j := 1) 3 h d_X3_prepareSets_126 fd_RX3_19 (by assumption) rfl (by assumption) ?_
                    refine pw_getR (j := 2) 2 h d_X3_prepareSets_129 fd_RX3_81 (by assumption) rfl (by assumption) ?_
                    refine pw_iload_n h 3 d_X3_prepareSets_132 rfl ?_
                    refine pw_iald h d_X3_prepareSets_133 (by assumption) (by assumption) ?_
                    refine pw_iload_n h 3 d_X3_prepareSets_134 rfl ?_
                    refine pw_iload_n h 2 d_X3_prepareSets_135 rfl ?_
                    refine pw_icmp_ne 143 h d_X3_prepareSets_136 (by decide) (fun c_136 => ?_) (fun c_136 => ?_)
                    · skip
                      have hv : ((0 : Int32).toInt : Rat) = oneH k i := by unfold oneH; rw [if_neg (fun q => c_136 (by rw [ei, ek, q]))]; rfl
                      refine pw_iconst (x := 0) h d_X3_prepareSets_143 (by decide) ?_
                      refine pw_callV (As := [.int _, .int _]) h d_X3_prepareSets_144 mf_X5_put mi_X5_put ml_RX3_84 ⟨by decide, by decide, by decide⟩ (by assumption) rfl rfl (Nat.le_of_ble_eq_true rfl) trivial (c_X5_put hQ0 (n := i) hR6.1 (by omega) _ _) ?_
                      intro ret7 sh7 I7 L7 R7 hp7
                      obtain ⟨e0, e1, eI, eL, eR⟩ := hp7
                      subst e0
                      have e1 := e1.symm
                      have eR := eR.symm
                      subst e1
                      subst eR
                      refine ⟨rfl, ?_⟩
                      have eL7 := eL.symm
                      subst eL7
                      rw [if_pos (by omega)] at eI
                      have hR7 : RestI I7 L5 45 (i + 1) (aQ A) (oneH k) zerW (stf A) := by rw [eI]; exact rs_put hR6 (hm6.2.1 i hlt) hv
                      have fK7 : ∀ b k, (b < 45 ∨ 60 < b) → I7 b k = I4 b k := fun b k c => by rw [eI, u2_n1 (by omega), u2_n1 (by omega), u2_n1 (by omega)]; exact fK6 b k c
                      clear eI eL
                      obtain ⟨v3_147, e3_147⟩ : ∃ z : Int32, z = y + (1) := ⟨_, rfl⟩
                      refine pw_iinc (lv' := [(3, .int v3_147), (0, .ref 61), (1, .ref 45), (2, .int v)]) v3_147 h d_X3_prepareSets_147 3 rfl e3_147.symm _ hml (by decide) rfl ?_
                      refine pw_goto 113 h d_X3_prepareSets_150 (by decide) ?_
                      refine PW.perm [1, 2, 3, 0] rfl ?_
                      exact ih (i + 1) v3_147 _ (by omega) (by omega) (k_up e3_147 ei) fK7 hR7
                    · skip
                      have hv : ((1 : Int32).toInt : Rat) = oneH k i := by unfold oneH; rw [if_pos ((nI_eq (by omega) (by omega)).mp (by rw [← ei, ← ek]; exact c_136))]; rfl
                      refine pw_iconst (x := 1) h d_X3_prepareSets_139 (by decide) ?_
                      refine pw_goto 144 h d_X3_prepareSets_140 (by decide) ?_
                      refine pw_callV (As := [.int _, .int _]) h d_X3_prepareSets_144 mf_X5_put mi_X5_put ml_RX3_84 ⟨by decide, by decide, by decide⟩ (by assumption) rfl rfl (Nat.le_of_ble_eq_true rfl) trivial (c_X5_put hQ0 (n := i) hR6.1 (by omega) _ _) ?_
                      intro ret7 sh7 I7 L7 R7 hp7
                      obtain ⟨e0, e1, eI, eL, eR⟩ := hp7
                      subst e0
                      have e1 := e1.symm
                      have eR := eR.symm
                      subst e1
                      subst eR
                      refine ⟨rfl, ?_⟩
                      have eL7 := eL.symm
                      subst eL7
                      rw [if_pos (by omega)] at eI
                      have hR7 : RestI I7 L5 45 (i + 1) (aQ A) (oneH k) zerW (stf A) := by rw [eI]; exact rs_put hR6 (hm6.2.1 i hlt) hv
                      have fK7 : ∀ b k, (b < 45 ∨ 60 < b) → I7 b k = I4 b k := fun b k c => by rw [eI, u2_n1 (by omega), u2_n1 (by omega), u2_n1 (by omega)]; exact fK6 b k c
                      clear eI eL
                      obtain ⟨v3_147, e3_147⟩ : ∃ z : Int32, z = y + (1) := ⟨_, rfl⟩
                      refine pw_iinc (lv' := [(3, .int v3_147), (0, .ref 61), (1, .ref 45), (2, .int v)]) v3_147 h d_X3_prepareSets_147 3 rfl e3_147.symm _ hml (by decide) rfl ?_
                      refine pw_goto 113 h d_X3_prepareSets_150 (by decide) ?_
                      refine PW.perm [1, 2, 3, 0] rfl ?_
                      exact ih (i + 1) v3_147 _ (by omega) (by omega) (k_up e3_147 ei) fK7 hR7
              refine PW.perm [1, 2, 3, 0] rfl ?_
              exact cut_113 (aN A + 1) 0 v3_112 _ (by omega) (by omega) e3_112 fK5 hR5
        refine PW.perm [1, 2, 0] rfl ?_
        exact cut_85 (aN A + 1) 0 v2_84 _ _ (by omega) (by omega) e2_84 hs2 (frT_S fS2) frTL_0 (fun k2 hk2 => absurd hk2 (Nat.not_lt_zero _)) (Or.inl rfl)
      · skip
        have hge : sz ≤ aN A := k_ge2 hm2.1 ez (by omega) (by omega) c_15
        refine pw_iconst (x := 1) h d_X3_prepareSets_18 (by decide) ?_
        refine pw_aload_n h 0 d_X3_prepareSets_19 rfl ?_
        refine pw_getR (j := 1) 3 h d_X3_prepareSets_20 fd_RX3_19 (by assumption) rfl (by assumption) ?_
        refine pw_getI 2 h d_X3_prepareSets_23 fd_RX3_61 (by assumption) rfl ?_
        refine pw_ishl h d_X3_prepareSets_26 ?_
        refine pw_iconst (x := 1) h d_X3_prepareSets_27 (by decide) ?_
        refine pw_isub h d_X3_prepareSets_28 ?_
        refine pw_nmI (fun v3_29 e3_29 => ?_)
        refine pw_istore_n (lv' := [(3, .int v3_29), (0, .ref 61), (1, .ref 45), (2, .int v)]) h d_X3_prepareSets_29 rfl _ hml (by decide) rfl ?_
        have cut_30 : ∀ (N c : Nat) (v3 : Int32) (I3 : IM), 2 ^ aN A - 1 < c + N → c ≤ 2 ^ aN A - 1 → v3 = nI (2 ^ aN A - 1 - c) → PS1 I3 (ordL (aN A) (sz - 2) ++ desL (aN A) sz c) → frS I I3 → PW X 30 [(0, .ref 61), (1, .ref 45), (2, .int v), (3, .int v3)] [] sh I3 L R 0 0 := by
          intro N
          induction N with
          | zero => intros; omega
          | succ N ihc =>
            intro c v3 I3 hNc hcl ec hs3 fS3
            have hbc : bcI v3 = nI (popN (2 ^ aN A - 1 - c)) := by rw [ec]; exact bcI_pop _ (by omega)
            have hpl := pop_le (aN A) (by omega) (2 ^ aN A - 1 - c) (by omega)
            refine pw_iload_n h 3 d_X3_prepareSets_30 rfl ?_
            refine pw_if_le 77 h d_X3_prepareSets_31 (by decide) (fun c_31 => ?_) (fun c_31 => ?_)
            · skip
              have hc0 : c = 2 ^ aN A - 1 := by have := k_0 ec (by omega) c_31; omega
              obtain ⟨v2_77, e2_77⟩ : ∃ z : Int32, z = v + (1) := ⟨_, rfl⟩
              refine pw_iinc (lv' := [(2, .int v2_77), (0, .ref 61), (1, .ref 45), (3, .int v3)]) v2_77 h d_X3_prepareSets_77 2 rfl e2_77.symm _ hml (by decide) rfl ?_
              refine pw_goto 7 h d_X3_prepareSets_80 (by decide) ?_
              refine PW.perm [1, 2, 0] rfl ?_
              exact ihz (sz + 1) v2_77 _ (by omega) (by omega) (by omega) (k_up e2_77 ez) (by rw [show sz + 1 - 2 = sz - 2 + 1 by omega]; show PS1 I3 (ordL (aN A) (sz - 2) ++ desL (aN A) (sz - 2 + 2) (2 ^ aN A - 1)); rw [show sz - 2 + 2 = sz by omega]; rw [hc0] at hs3; exact hs3) fS3
            · skip
              have hcp : 0 < 2 ^ aN A - 1 - c := k_p ec (by omega) c_31
              refine pw_iload_n h 3 d_X3_prepareSets_34 rfl ?_
              refine pw_callS (As := [.int _]) h d_X3_prepareSets_35 mf_J6_bitCount_0f7a4 st_yJ6_bitCount_0f7a4 ml_RX3_66 ⟨by decide, by decide, by decide⟩ rfl rfl (Nat.le_of_ble_eq_true rfl) c_J6_bitCount_0f7a4 ?_
              refine PKk.ret ?_
              refine pw_iload_n h 2 d_X3_prepareSets_38 rfl ?_
              refine pw_icmp_ne 71 h d_X3_prepareSets_39 (by decide) (fun c_39 => ?_) (fun c_39 => ?_)
              · skip
                have hne : ¬ popN (2 ^ aN A - 1 - c) = sz := fun e => c_39 (by rw [hbc, ez, e])
                obtain ⟨v3_71, e3_71⟩ : ∃ z : Int32, z = v3 + (-1) := ⟨_, rfl⟩
                refine pw_iinc (lv' := [(3, .int v3_71), (0, .ref 61), (1, .ref 45), (2, .int v)]) v3_71 h d_X3_prepareSets_71 3 rfl e3_71.symm _ hml (by decide) rfl ?_
                refine pw_goto 30 h d_X3_prepareSets_74 (by decide) ?_
                refine PW.perm [1, 2, 3, 0] rfl ?_
                first
                  | exact ihc (c + 1) v3_71 _ (by omega) (by omega) (by rw [show 2 ^ aN A - 1 - (c + 1) = 2 ^ aN A - 1 - c - 1 by omega]; exact k_dn e3_71 ec (by omega)) happ fapp
                  | exact ihc (c + 1) v3_71 _ (by omega) (by omega) (by rw [show 2 ^ aN A - 1 - (c + 1) = 2 ^ aN A - 1 - c - 1 by omega]; exact k_dn e3_71 ec (by omega)) (by rw [des_n hne]; exact hs3) fS3
              · skip
                have hsz : popN (2 ^ aN A - 1 - c) = sz := by rw [hbc, ez] at c_39; exact (nI_eq (by omega) (by omega)).mp c_39
                have hroom := ord_room (aN A) h4 sz hz2 hge c (by omega) hsz
                have hx63 : px_ix (I3 61 6) 11 (ordL (aN A) (sz - 2) ++ desL (aN A) sz c).length := k_ix hs3.1 hroom (by decide)
                refine pw_aload_n h 0 d_X3_prepareSets_42 rfl ?_
                refine pw_getI 3 h d_X3_prepareSets_43 fd_RX3_33 (by assumption) rfl ?_
                refine pw_bipush (x := 11) h d_X3_prepareSets_46 (by decide) ?_
                refine pw_icmp_ge 71 h d_X3_prepareSets_48 (by decide) (fun c_48 => ?_) (fun c_48 => ?_)
                · exact absurd (k_ge (n := 11) hs3.1 rfl (by omega) (by decide) c_48) (by omega)
                · skip
                  have happ := ps1_s hs3 ec
                  rw [List.append_assoc, ← des_s hsz] at happ
                  have fapp := frS_s (k := (ordL (aN A) (sz - 2) ++ desL (aN A) sz c).length) (x := v3) (y := I3 61 6 + 1) fS3
                  refine pw_aload_n h 0 d_X3_prepareSets_51 rfl ?_
                  refine pw_getR (j := 63) 3 h d_X3_prepareSets_52 fd_RX3_36 (by assumption) rfl (by assumption) ?_
                  refine pw_aload_n h 0 d_X3_prepareSets_55 rfl ?_
                  refine pw_getI 3 h d_X3_prepareSets_56 fd_RX3_33 (by assumption) rfl ?_
                  refine pw_iload_n h 3 d_X3_prepareSets_59 rfl ?_
                  refine pw_iast h d_X3_prepareSets_60 (by assumption) (by assumption) ?_
                  refine pw_aload_n h 0 d_X3_prepareSets_61 rfl ?_
                  refine pw_dupR h d_X3_prepareSets_62 ?_
                  refine pw_getI 3 h d_X3_prepareSets_63 fd_RX3_33 (by assumption) rfl ?_
                  refine pw_iconst (x := 1) h d_X3_prepareSets_66 (by decide) ?_
                  refine pw_iadd h d_X3_prepareSets_67 ?_
                  refine pw_putI 3 h d_X3_prepareSets_68 fd_RX3_33 (by assumption) rfl rfl rfl rfl ?_
                  obtain ⟨v3_71, e3_71⟩ : ∃ z : Int32, z = v3 + (-1) := ⟨_, rfl⟩
                  refine pw_iinc (lv' := [(3, .int v3_71), (0, .ref 61), (1, .ref 45), (2, .int v)]) v3_71 h d_X3_prepareSets_71 3 rfl e3_71.symm _ hml (by decide) rfl ?_
                  refine pw_goto 30 h d_X3_prepareSets_74 (by decide) ?_
                  refine PW.perm [1, 2, 3, 0] rfl ?_
                  first
                    | exact ihc (c + 1) v3_71 _ (by omega) (by omega) (by rw [show 2 ^ aN A - 1 - (c + 1) = 2 ^ aN A - 1 - c - 1 by omega]; exact k_dn e3_71 ec (by omega)) happ fapp
                    | exact ihc (c + 1) v3_71 _ (by omega) (by omega) (by rw [show 2 ^ aN A - 1 - (c + 1) = 2 ^ aN A - 1 - c - 1 by omega]; exact k_dn e3_71 ec (by omega)) (by rw [des_n hne]; exact hs3) fS3
        refine PW.perm [1, 2, 3, 0] rfl ?_
        exact cut_30 (2 ^ aN A) 0 v3_29 _ (by omega) (by omega) (by rw [e3_29, hm2.1]; exact shl_1 (aN A) (by omega)) (by rw [show desL (aN A) sz 0 = [] from rfl, List.append_nil]; exact hs2) fS2
  refine PW.perm [1, 2, 0] rfl ?_
  exact cut_7 (aN A + 1) 2 v2_6 _ (by omega) (by omega) (by omega) e2_6 ps1_0.1 ps1_0.2
