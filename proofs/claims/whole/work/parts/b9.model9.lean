set_option maxHeartbeats 4000000 in
set_option maxRecDepth 100000 in
theorem c_X8_clauseW {sh : Sh} {I : IM} {L : LM} {R : RM} {m T a : Nat} {s0 : Int32} {D : DR} (hM : ModF sh R m) (hRD : RdM I m T a s0 D) (hc : nxt (I (m + 7)) (skB (I (m + 7)) a T) T = 119) : PMet M_X8_clause [.ref m] sh I L R (clP sh I L R m T s0 (pCl (I (m + 7)) T a D)) := by
  refine PMet.of mf_X8_clause (Nat.le_of_ble_eq_true rfl) ?_
  intro X h hr hml
  have hml : (xc X).maxLocals = 7 := hml
  have h : PXok X RX8 cX8_clause 4 0 0 := h
  have hr : PXr X none "clause" _ 0 0 := hr
  have hM0 := hM
  obtain ⟨f0, f1, f2, f3, f4, f5, f6, f7, f8, f9, f10, f11, f12, f13, f14, f15, f16, f17, f18, f19, f20, f21, f22, f23, f24, f25, f26, f27, g1, g2, g3, g4, g5, g6, g7, g8, g9, g10, g11, g12, g13, g14, g15, g16, g17, g18, g19, g20, g21, g22, g23, g24, g25, g26, g27⟩ := hM
  have hT2 := hRD.2.2.2.2.1
  have haT := hRD.2.2.2.1
  show PW X 0 [(0, .ref m)] [] sh I L R 0 0
  refine pw_aload_n h 0 d_X8_clause_0 rfl ?_
  refine pw_callV (As := []) h d_X8_clause_1 mf_X8_next mi_X8_next ml_RX8_170 ⟨by decide, by decide, by decide⟩ (by assumption) rfl rfl (Nat.le_of_ble_eq_true rfl) trivial (c_X8_next hM0 hRD.1 hRD.2.1 hT2 haT) ?_
  intro ret1 sh1 I1 L1 R1 hp1
  obtain ⟨e0, e1, eI, eL, eR⟩ := hp1
  subst e0
  have e1 := e1.symm
  have eR := eR.symm
  have eL := eL.symm
  subst e1
  subst eR
  subst eL
  refine ⟨rfl, ?_⟩
  have fN1 : frN m I I1 := by rw [eI]; exact frN_u (Or.inl rfl)
  have w1 : I1 m 11 = 0 := by rw [eI, u2_n2 (by decide)]; exact hRD.2.2.1
  have R1 : RdM I1 m T (skB (I (m + 7)) a T) s0 D := RdM_N hRD fN1 (by rw [eI]; exact u2_s) w1 (skT haT)
  have x1 : I1 (m + 7) = I (m + 7) := frN_f fN1 (by decide)
  clear eI
  refine pw_nmI (fun v1_4 e1_4 => ?_)
  refine pw_istore_n (lv' := [(1, .int v1_4), (0, .ref m)]) h d_X8_clause_4 rfl _ hml (by decide) rfl ?_
  have ec : v1_4 = 119 := by rw [e1_4]; exact (nx0_c (by decide) (by decide)).mpr hc
  have h98 : ¬ nxt (I (m + 7)) (skB (I (m + 7)) a T) T = 98 := by rw [hc]; decide
  refine pw_iload_n h 0 d_X8_clause_5 rfl ?_
  refine pw_bipush (x := 98) h d_X8_clause_6 (by decide) ?_
  refine pw_icmp_ne 20 h d_X8_clause_8 (by decide) (fun c_8 => ?_) (fun c_8 => ?_)
  · skip
    refine pw_iload_n h 0 d_X8_clause_20 rfl ?_
    refine pw_bipush (x := 119) h d_X8_clause_21 (by decide) ?_
    refine pw_icmp_eq 32 h d_X8_clause_23 (by decide) (fun c_23 => ?_) (fun c_23 => ?_)
    · skip
      refine pw_iconst (x := 1) h d_X8_clause_32 (by decide) ?_
      refine pw_goto 37 h d_X8_clause_33 (by decide) ?_
      refine pw_nmI (fun v2_37 e2_37 => ?_)
      refine pw_istore_n (lv' := [(2, .int v2_37), (1, .int v1_4), (0, .ref m)]) h d_X8_clause_37 rfl _ hml (by decide) rfl ?_
      refine pw_aload_n h 2 d_X8_clause_38 rfl ?_
      refine pw_aload_n h 2 d_X8_clause_39 rfl ?_
      refine pw_getI 8 h d_X8_clause_40 fd_RX8_166 (by assumption) rfl ?_
      refine pw_if_ne 50 h d_X8_clause_43 (by decide) (fun c_43 => ?_) (fun c_43 => ?_)
      · exact absurd w1 c_43
      · skip
        refine pw_iload_n h 0 d_X8_clause_46 rfl ?_
        refine pw_if_ne 54 h d_X8_clause_47 (by decide) (fun c_47 => ?_) (fun c_47 => ?_)
        · skip
          refine pw_iconst (x := 0) h d_X8_clause_54 (by decide) ?_
          refine pw_putI 8 h d_X8_clause_55 fd_RX8_166 (by assumption) rfl rfl rfl (by first | exact Or.inl rfl | exact Or.inr rfl | rfl | decide) ?_
          refine pw_aload_n h 2 d_X8_clause_58 rfl ?_
          refine pw_getI 8 h d_X8_clause_59 fd_RX8_166 (by assumption) rfl ?_
          refine pw_if_eq 66 h d_X8_clause_62 (by decide) (fun c_62 => ?_) (fun c_62 => ?_)
          · skip
            refine pw_aload_n h 2 d_X8_clause_66 rfl ?_
            refine pw_dupR h d_X8_clause_67 ?_
            refine pw_getI 8 h d_X8_clause_68 fd_RX8_163 (by assumption) rfl ?_
            refine pw_iconst (x := 1) h d_X8_clause_71 (by decide) ?_
            refine pw_iadd h d_X8_clause_72 ?_
            refine pw_putI 8 h d_X8_clause_73 fd_RX8_163 (by assumption) rfl rfl rfl rfl ?_
            obtain ⟨I2, eI2⟩ : ∃ I2, I2 = setW m I1 0 1 := ⟨_, rfl⟩
            refine pw_mem (I' := I2) eI2.symm rfl rfl ?_
            have fN2 : frN m I I2 := by rw [eI2]; exact frN_t fN1 setW_fr
            have hlt := nxt_lt hc (by decide)
            have R2 : RdM I2 m T ((skB (I (m + 7)) a T) + 1) s0 D := RdM_N R1 (by rw [eI2]; exact setW_fr) (by rw [eI2]; exact setW_1 R1.2.1) (by rw [eI2]; exact setW_w) hlt
            have x2 : I2 (m + 7) = I (m + 7) := frN_f fN2 (by decide)
            refine pw_iload_n h 1 d_X8_clause_76 rfl ?_
            refine pw_bipush (x := 102) h d_X8_clause_77 (by decide) ?_
            refine pw_icmp_ne 110 h d_X8_clause_79 (by decide) (fun c_79 => ?_) (fun c_79 => ?_)
            · skip
              refine pw_aload_n h 2 d_X8_clause_110 rfl ?_
              refine pw_iload_n h 1 d_X8_clause_111 rfl ?_
              refine pw_bipush (x := 98) h d_X8_clause_112 (by decide) ?_
              refine pw_icmp_ne 121 h d_X8_clause_114 (by decide) (fun c_114 => ?_) (fun c_114 => ?_)
              · skip
                refine pw_iconst (x := 0) h d_X8_clause_121 (by decide) ?_
                refine pw_callV (As := [.int _]) h d_X8_clause_122 mf_X8_figure mi_X8_figure ml_RX8_187 ⟨by decide, by decide, by decide⟩ (by assumption) rfl rfl (Nat.le_of_ble_eq_true rfl) trivial (c_X8_figure0 hM0 R2.1 R2.2.1 hT2 R2.2.2.2.1 R2.2.2.1 R2.2.2.2.2.2.2.1 (rdM_len R2)) ?_
                intro ret3 sh3 I3 L3 R3 hp3
                obtain ⟨e1, eR, eL, f3, p, hp, ex, hx3⟩ := hp3
                have e1 := e1.symm
                have eR := eR.symm
                have eL := eL.symm
                subst e1
                subst eR
                subst eL
                subst ex
                have fN3 : frN m I I3 := frN_t fN2 f3
                have x3 : I3 (m + 7) = I (m + 7) := frN_f fN3 (by decide)
                rw [x2] at hx3
                skip
                refine ⟨rfl, ?_⟩
                refine pw_nmI (fun v3_125 e3_125 => ?_)
                refine pw_istore_n (lv' := [(3, .int v3_125), (2, .int v2_37), (1, .int v1_4), (0, .ref m)]) h d_X8_clause_125 rfl _ hml (by decide) rfl ?_
                have hxp : px_ix v3_125 13 p := k_ix e3_125 hp (by decide)
                refine pw_aload_n h 3 d_X8_clause_126 rfl ?_
                refine pw_getI 8 h d_X8_clause_127 fd_RX8_166 (by assumption) rfl ?_
                refine pw_if_ne 146 h d_X8_clause_130 (by decide) (fun c_130 => ?_) (fun c_130 => ?_)
                · skip
                  have hbad := hx3.resolve_left (fun q => c_130 q.1)
                  clear hx3
                  have R3t : I3 m 9 = nI T := by rw [f3 _ _ (Or.inr (by decide))]; exact R2.1
                  have hoq : okZ (I (m + 7)) T ((skB (I (m + 7)) a T) + 1) 0 12 → 0 < I2 (m + 10) (numZ (I (m + 7)) T (skB (I (m + 7)) ((skB (I (m + 7)) a T) + 1) T)).2 → 0 < D.2.1 (numZ (I (m + 7)) T (skB (I (m + 7)) ((skB (I (m + 7)) a T) + 1) T)).2 := fun q => (wt_pos R2.2.2.2.2.2.2 (by have := q.2.2; omega)).mp
                  refine pw_iconst (x := 0) h d_X8_clause_146 (by decide) ?_
                  refine pw_nmI (fun v4_147 e4_147 => ?_)
                  refine pw_istore (lv' := [(4, .int v4_147), (3, .int v3_125), (2, .int v2_37), (1, .int v1_4), (0, .ref m)]) h d_X8_clause_147 _ hml (by decide) rfl ?_
                  refine pw_aload_n h 4 d_X8_clause_149 rfl ?_
                  refine pw_aload_n h 4 d_X8_clause_150 rfl ?_
                  refine pw_getI 8 h d_X8_clause_151 fd_RX8_166 (by assumption) rfl ?_
                  refine pw_if_ne 168 h d_X8_clause_154 (by decide) (fun c_154 => ?_) (fun c_154 => ?_)
                  · skip
                    refine pw_iconst (x := 1) h d_X8_clause_168 (by decide) ?_
                    refine pw_goto 173 h d_X8_clause_169 (by decide) ?_
                    refine pw_putI 8 h d_X8_clause_173 fd_RX8_166 (by assumption) rfl rfl rfl (by first | exact Or.inl rfl | exact Or.inr rfl | rfl | decide) ?_
                    refine pw_aload_n h 4 d_X8_clause_176 rfl ?_
                    refine pw_dupR h d_X8_clause_177 ?_
                    refine pw_getI 8 h d_X8_clause_178 fd_RX8_163 (by assumption) rfl ?_
                    refine pw_iload h 0 d_X8_clause_181 rfl ?_
                    refine pw_if_eq 190 h d_X8_clause_183 (by decide) (fun c_183 => ?_) (fun c_183 => ?_)
                    · skip
                      refine pw_iconst (x := 0) h d_X8_clause_190 (by decide) ?_
                      refine pw_iadd h d_X8_clause_191 ?_
                      refine pw_putI 8 h d_X8_clause_192 fd_RX8_163 (by assumption) rfl rfl rfl rfl ?_
                      obtain ⟨I5, eI5⟩ : ∃ I5, I5 = setW m I3 1 0 := ⟨_, rfl⟩
                      refine pw_mem (I' := I5) eI5.symm rfl rfl ?_
                      have fN5 : frN m I I5 := by rw [eI5]; exact frN_t fN3 setW_fr
                      have a5 : I5 m 10 = nI (skB (I (m + 7)) ((skB (I (m + 7)) a T) + 1) T) := by rw [eI5]; exact setW_0 hbad.2.2
                      have w5 : I5 m 11 = 1 := by rw [eI5]; exact setW_w
                      have D5 : DrM I5 m s0 D := by rw [eI5]; exact DrM_N R2.2.2.2.2.2.2 (frN_t f3 setW_fr)
                      refine pw_iload_n h 3 d_X8_clause_195 rfl ?_
                      refine pw_bipush (x := 119) h d_X8_clause_196 (by decide) ?_
                      refine pw_icmp_ne 235 h d_X8_clause_198 (by decide) (fun c_198 => ?_) (fun c_198 => ?_)
                      · exact absurd ec c_198
                      · skip
                        refine pw_aload_n h 4 d_X8_clause_201 rfl ?_
                        refine pw_iconst (x := 1) h d_X8_clause_202 (by decide) ?_
                        refine pw_bipush (x := 50) h d_X8_clause_203 (by decide) ?_
                        refine pw_callV (As := [.int _, .int _]) h d_X8_clause_205 mf_X8_number mi_X8_number ml_RX8_178 ⟨by decide, by decide, by decide⟩ (by assumption) rfl rfl (Nat.le_of_ble_eq_true rfl) trivial (c_X8_number hM0 (show I5 m 9 = nI T by rw [eI5, setW_fr _ _ (Or.inr (by decide))]; exact R3t) a5 hT2 (skT hlt) (wr := true) w5 (lo := 1) (hi := 50) rfl rfl (by decide)) ?_
                        intro ret8 sh8 I8 L8 R8 hp8
                        obtain ⟨e1, eR, eL, f8, x, ex, hx8⟩ := hp8
                        have e1 := e1.symm
                        have eR := eR.symm
                        have eL := eL.symm
                        subst e1
                        subst eR
                        subst eL
                        subst ex
                        have fN8 : frN m I I8 := frN_t fN5 f8
                        have hx8 := hx8.resolve_left (fun q => absurd q.2.1 (by decide))
                        have a8 := (hx8.2.2.2 rfl).trans a5
                        refine ⟨rfl, ?_⟩
                        refine pw_nmI (fun v5_208 e5_208 => ?_)
                        refine pw_istore (lv' := [(5, .int v5_208), (4, .int v4_147), (3, .int v3_125), (2, .int v2_37), (1, .int v1_4), (0, .ref m)]) h d_X8_clause_208 _ hml (by decide) rfl ?_
                        refine pw_aload_n h 5 d_X8_clause_210 rfl ?_
                        refine pw_getR (j := (m + 10)) 8 h d_X8_clause_211 fd_RX8_41 (by assumption) rfl (by assumption) ?_
                        refine pw_iload_n h 2 d_X8_clause_214 rfl ?_
                        refine pw_aload_n h 5 d_X8_clause_215 rfl ?_
                        refine pw_getI 8 h d_X8_clause_216 fd_RX8_166 (by assumption) rfl ?_
                        refine pw_if_eq 231 h d_X8_clause_219 (by decide) (fun c_219 => ?_) (fun c_219 => ?_)
                        · exact absurd (hx8.1.symm.trans c_219) (by decide)
                        · skip
                          refine pw_aload_n h 5 d_X8_clause_222 rfl ?_
                          refine pw_getR (j := (m + 10)) 8 h d_X8_clause_223 fd_RX8_41 (by assumption) rfl (by assumption) ?_
                          refine pw_iload_n h 2 d_X8_clause_226 rfl ?_
                          refine pw_iald h d_X8_clause_227 (by assumption) (by assumption) ?_
                          refine pw_goto 233 h d_X8_clause_228 (by decide) ?_
                          refine pw_iast h d_X8_clause_233 (by assumption) (by assumption) ?_
                          refine pw_vret h hr d_X8_clause_234 (by decide) (by decide) ?_
                          rw [← u2_self (rfl : I8 (m + 10) p = I8 (m + 10) p)]
                          exact cl_fail (frM_N fN8) hx8.1 a8 (by unfold pCl; rw [if_neg h98, if_pos hc]; exact pW_no (fun q => hbad.2.1 ⟨q.1, fun g => q.2 (hoq q.1 g)⟩))
                    · exact absurd e4_147 c_183
                  · exact absurd (hbad.1.symm.trans c_154) (by decide)
                · skip
                  have hgood := hx3.resolve_right (fun q => absurd (q.1.symm.trans c_130) (by decide))
                  clear hx3
                  obtain ⟨e, he⟩ : ∃ e, e = (numZ (I (m + 7)) T (skB (I (m + 7)) ((skB (I (m + 7)) a T) + 1) T)).1 := ⟨_, rfl⟩
                  have heT : e ≤ T := by rw [he]; exact (numZ_le (skT hlt)).2
                  have R3 : RdM I3 m T e s0 D := RdM_N R2 f3 (by rw [he]; exact hgood.2.2.2.2) hgood.1 heT
                  have hno : ¬ 0 < D.2.1 p := fun g => hgood.2.2.2.1 ((wt_pos R2.2.2.2.2.2.2 hp).mpr g)
                  refine pw_aload_n h 3 d_X8_clause_133 rfl ?_
                  refine pw_callV (As := []) h d_X8_clause_134 mf_X8_next mi_X8_next ml_RX8_170 ⟨by decide, by decide, by decide⟩ (by assumption) rfl rfl (Nat.le_of_ble_eq_true rfl) trivial (c_X8_next hM0 R3.1 R3.2.1 hT2 heT) ?_
                  intro ret4 sh4 I4 L4 R4 hp4
                  obtain ⟨e0, e1, eI, eL, eR⟩ := hp4
                  subst e0
                  have e1 := e1.symm
                  have eR := eR.symm
                  have eL := eL.symm
                  subst e1
                  subst eR
                  subst eL
                  refine ⟨rfl, ?_⟩
                  have f4 : frN m I3 I4 := by rw [eI]; exact frN_u (Or.inl rfl)
                  have R4 : RdM I4 m T (skB (I (m + 7)) e T) s0 D := RdM_N R3 f4 (by rw [eI, x3]; exact u2_s) (by rw [eI, u2_n2 (by decide)]; exact R3.2.2.1) (skT heT)
                  have fN4 : frN m I I4 := frN_t fN3 f4
                  clear eI
                  refine pw_bipush (x := 61) h d_X8_clause_137 (by decide) ?_
                  refine pw_icmp_ne 146 h d_X8_clause_139 (by decide) (fun c_139 => ?_) (fun c_139 => ?_)
                  · skip
                    have hne : ¬ nxt (I (m + 7)) (skB (I (m + 7)) e T) T = 61 := by rw [x3] at c_139; exact fun q => c_139 ((nx0_c (by decide) (by decide)).mpr q)
                    refine pw_iconst (x := 0) h d_X8_clause_146 (by decide) ?_
                    refine pw_nmI (fun v4_147 e4_147 => ?_)
                    refine pw_istore (lv' := [(4, .int v4_147), (3, .int v3_125), (2, .int v2_37), (1, .int v1_4), (0, .ref m)]) h d_X8_clause_147 _ hml (by decide) rfl ?_
                    refine pw_aload_n h 4 d_X8_clause_149 rfl ?_
                    refine pw_aload_n h 4 d_X8_clause_150 rfl ?_
                    refine pw_getI 8 h d_X8_clause_151 fd_RX8_166 (by assumption) rfl ?_
                    refine pw_if_ne 168 h d_X8_clause_154 (by decide) (fun c_154 => ?_) (fun c_154 => ?_)
                    · exact absurd R4.2.2.1 c_154
                    · skip
                      refine pw_iload_n h 3 d_X8_clause_157 rfl ?_
                      refine pw_bipush (x := 119) h d_X8_clause_158 (by decide) ?_
                      refine pw_icmp_ne 172 h d_X8_clause_160 (by decide) (fun c_160 => ?_) (fun c_160 => ?_)
                      · exact absurd ec c_160
                      · skip
                        refine pw_iload h 0 d_X8_clause_163 rfl ?_
                        refine pw_if_ne 172 h d_X8_clause_165 (by decide) (fun c_165 => ?_) (fun c_165 => ?_)
                        · exact absurd e4_147 c_165
                        · skip
                          refine pw_iconst (x := 1) h d_X8_clause_168 (by decide) ?_
                          refine pw_goto 173 h d_X8_clause_169 (by decide) ?_
                          refine pw_putI 8 h d_X8_clause_173 fd_RX8_166 (by assumption) rfl rfl rfl (by first | exact Or.inl rfl | exact Or.inr rfl | rfl | decide) ?_
                          refine pw_aload_n h 4 d_X8_clause_176 rfl ?_
                          refine pw_dupR h d_X8_clause_177 ?_
                          refine pw_getI 8 h d_X8_clause_178 fd_RX8_163 (by assumption) rfl ?_
                          refine pw_iload h 0 d_X8_clause_181 rfl ?_
                          refine pw_if_eq 190 h d_X8_clause_183 (by decide) (fun c_183 => ?_) (fun c_183 => ?_)
                          · skip
                            refine pw_iconst (x := 0) h d_X8_clause_190 (by decide) ?_
                            refine pw_iadd h d_X8_clause_191 ?_
                            refine pw_putI 8 h d_X8_clause_192 fd_RX8_163 (by assumption) rfl rfl rfl rfl ?_
                            obtain ⟨I5, eI5⟩ : ∃ I5, I5 = setW m I4 1 0 := ⟨_, rfl⟩
                            refine pw_mem (I' := I5) eI5.symm rfl rfl ?_
                            have fN5 : frN m I I5 := by rw [eI5]; exact frN_t fN4 setW_fr
                            have a5 : I5 m 10 = nI (skB (I (m + 7)) e T) := by rw [eI5]; exact setW_0 R4.2.1
                            have w5 : I5 m 11 = 1 := by rw [eI5]; exact setW_w
                            have D5 : DrM I5 m s0 D := by rw [eI5]; exact DrM_N R4.2.2.2.2.2.2 setW_fr
                            refine pw_iload_n h 3 d_X8_clause_195 rfl ?_
                            refine pw_bipush (x := 119) h d_X8_clause_196 (by decide) ?_
                            refine pw_icmp_ne 235 h d_X8_clause_198 (by decide) (fun c_198 => ?_) (fun c_198 => ?_)
                            · exact absurd ec c_198
                            · skip
                              refine pw_aload_n h 4 d_X8_clause_201 rfl ?_
                              refine pw_iconst (x := 1) h d_X8_clause_202 (by decide) ?_
                              refine pw_bipush (x := 50) h d_X8_clause_203 (by decide) ?_
                              refine pw_callV (As := [.int _, .int _]) h d_X8_clause_205 mf_X8_number mi_X8_number ml_RX8_178 ⟨by decide, by decide, by decide⟩ (by assumption) rfl rfl (Nat.le_of_ble_eq_true rfl) trivial (c_X8_number hM0 (show I5 m 9 = nI T by rw [eI5, setW_fr _ _ (Or.inr (by decide))]; exact R4.1) a5 hT2 (skT heT) (wr := true) w5 (lo := 1) (hi := 50) rfl rfl (by decide)) ?_
                              intro ret8 sh8 I8 L8 R8 hp8
                              obtain ⟨e1, eR, eL, f8, x, ex, hx8⟩ := hp8
                              have e1 := e1.symm
                              have eR := eR.symm
                              have eL := eL.symm
                              subst e1
                              subst eR
                              subst eL
                              subst ex
                              have fN8 : frN m I I8 := frN_t fN5 f8
                              have hx8 := hx8.resolve_left (fun q => absurd q.2.1 (by decide))
                              have a8 := (hx8.2.2.2 rfl).trans a5
                              refine ⟨rfl, ?_⟩
                              refine pw_nmI (fun v5_208 e5_208 => ?_)
                              refine pw_istore (lv' := [(5, .int v5_208), (4, .int v4_147), (3, .int v3_125), (2, .int v2_37), (1, .int v1_4), (0, .ref m)]) h d_X8_clause_208 _ hml (by decide) rfl ?_
                              refine pw_aload_n h 5 d_X8_clause_210 rfl ?_
                              refine pw_getR (j := (m + 10)) 8 h d_X8_clause_211 fd_RX8_41 (by assumption) rfl (by assumption) ?_
                              refine pw_iload_n h 2 d_X8_clause_214 rfl ?_
                              refine pw_aload_n h 5 d_X8_clause_215 rfl ?_
                              refine pw_getI 8 h d_X8_clause_216 fd_RX8_166 (by assumption) rfl ?_
                              refine pw_if_eq 231 h d_X8_clause_219 (by decide) (fun c_219 => ?_) (fun c_219 => ?_)
                              · exact absurd (hx8.1.symm.trans c_219) (by decide)
                              · skip
                                refine pw_aload_n h 5 d_X8_clause_222 rfl ?_
                                refine pw_getR (j := (m + 10)) 8 h d_X8_clause_223 fd_RX8_41 (by assumption) rfl (by assumption) ?_
                                refine pw_iload_n h 2 d_X8_clause_226 rfl ?_
                                refine pw_iald h d_X8_clause_227 (by assumption) (by assumption) ?_
                                refine pw_goto 233 h d_X8_clause_228 (by decide) ?_
                                refine pw_iast h d_X8_clause_233 (by assumption) (by assumption) ?_
                                refine pw_vret h hr d_X8_clause_234 (by decide) (by decide) ?_
                                rw [← u2_self (rfl : I8 (m + 10) p = I8 (m + 10) p)]
                                exact cl_fail (frM_N fN8) hx8.1 a8 (by unfold pCl; rw [if_neg h98, if_pos hc, pW_ok hgood.2.1 (hgood.2.2.1 ▸ hno), ← hgood.2.2.1, ← he]; exact pW2_0 hne)
                          · exact absurd e4_147 c_183
                  · skip
                    have heq : nxt (I (m + 7)) (skB (I (m + 7)) e T) T = 61 := by rw [x3] at c_139; exact (nx0_c (by decide) (by decide)).mp c_139
                    have hlt4 := nxt_lt heq (by decide)
                    have hle4 : skB (I (m + 7)) e T + 1 ≤ T := hlt4
                    refine pw_iconst (x := 1) h d_X8_clause_142 (by decide) ?_
                    refine pw_goto 147 h d_X8_clause_143 (by decide) ?_
                    refine pw_nmI (fun v4_147 e4_147 => ?_)
                    refine pw_istore (lv' := [(4, .int v4_147), (3, .int v3_125), (2, .int v2_37), (1, .int v1_4), (0, .ref m)]) h d_X8_clause_147 _ hml (by decide) rfl ?_
                    refine pw_aload_n h 4 d_X8_clause_149 rfl ?_
                    refine pw_aload_n h 4 d_X8_clause_150 rfl ?_
                    refine pw_getI 8 h d_X8_clause_151 fd_RX8_166 (by assumption) rfl ?_
                    refine pw_if_ne 168 h d_X8_clause_154 (by decide) (fun c_154 => ?_) (fun c_154 => ?_)
                    · exact absurd R4.2.2.1 c_154
                    · skip
                      refine pw_iload_n h 3 d_X8_clause_157 rfl ?_
                      refine pw_bipush (x := 119) h d_X8_clause_158 (by decide) ?_
                      refine pw_icmp_ne 172 h d_X8_clause_160 (by decide) (fun c_160 => ?_) (fun c_160 => ?_)
                      · exact absurd ec c_160
                      · skip
                        refine pw_iload h 0 d_X8_clause_163 rfl ?_
                        refine pw_if_ne 172 h d_X8_clause_165 (by decide) (fun c_165 => ?_) (fun c_165 => ?_)
                        · skip
                          refine pw_iconst (x := 0) h d_X8_clause_172 (by decide) ?_
                          refine pw_putI 8 h d_X8_clause_173 fd_RX8_166 (by assumption) rfl rfl rfl (by first | exact Or.inl rfl | exact Or.inr rfl | rfl | decide) ?_
                          refine pw_aload_n h 4 d_X8_clause_176 rfl ?_
                          refine pw_dupR h d_X8_clause_177 ?_
                          refine pw_getI 8 h d_X8_clause_178 fd_RX8_163 (by assumption) rfl ?_
                          refine pw_iload h 0 d_X8_clause_181 rfl ?_
                          refine pw_if_eq 190 h d_X8_clause_183 (by decide) (fun c_183 => ?_) (fun c_183 => ?_)
                          · exact absurd (e4_147.symm.trans c_183) (by decide)
                          · skip
                            refine pw_iconst (x := 1) h d_X8_clause_186 (by decide) ?_
                            refine pw_goto 191 h d_X8_clause_187 (by decide) ?_
                            refine pw_iadd h d_X8_clause_191 ?_
                            refine pw_putI 8 h d_X8_clause_192 fd_RX8_163 (by assumption) rfl rfl rfl rfl ?_
                            obtain ⟨I5, eI5⟩ : ∃ I5, I5 = setW m I4 0 1 := ⟨_, rfl⟩
                            refine pw_mem (I' := I5) eI5.symm rfl rfl ?_
                            have fN5 : frN m I I5 := by rw [eI5]; exact frN_t fN4 setW_fr
                            have R5 : RdM I5 m T (skB (I (m + 7)) e T + 1) s0 D := by rw [eI5]; exact RdM_N R4 setW_fr (setW_1 R4.2.1) setW_w hlt4
                            have x5 : I5 (m + 7) = I (m + 7) := frN_f fN5 (by decide)
                            refine pw_iload_n h 3 d_X8_clause_195 rfl ?_
                            refine pw_bipush (x := 119) h d_X8_clause_196 (by decide) ?_
                            refine pw_icmp_ne 235 h d_X8_clause_198 (by decide) (fun c_198 => ?_) (fun c_198 => ?_)
                            · exact absurd ec c_198
                            · skip
                              refine pw_aload_n h 4 d_X8_clause_201 rfl ?_
                              refine pw_iconst (x := 1) h d_X8_clause_202 (by decide) ?_
                              refine pw_bipush (x := 50) h d_X8_clause_203 (by decide) ?_
                              refine pw_callV (As := [.int _, .int _]) h d_X8_clause_205 mf_X8_number mi_X8_number ml_RX8_178 ⟨by decide, by decide, by decide⟩ (by assumption) rfl rfl (Nat.le_of_ble_eq_true rfl) trivial (c_X8_number hM0 R5.1 R5.2.1 hT2 R5.2.2.2.1 (wr := false) R5.2.2.1 (lo := 1) (hi := 50) rfl rfl (by decide)) ?_
                              intro ret8 sh8 I8 L8 R8 hp8
                              obtain ⟨e1, eR, eL, f8, x, ex, hx8⟩ := hp8
                              have e1 := e1.symm
                              have eR := eR.symm
                              have eL := eL.symm
                              subst e1
                              subst eR
                              subst eL
                              subst ex
                              rw [x5] at hx8
                              have fN8 : frN m I I8 := frN_t fN5 f8
                              have D8 : DrM I8 m s0 D := DrM_N R5.2.2.2.2.2.2 f8
                              refine ⟨rfl, ?_⟩
                              refine pw_nmI (fun v5_208 e5_208 => ?_)
                              refine pw_istore (lv' := [(5, .int v5_208), (4, .int v4_147), (3, .int v3_125), (2, .int v2_37), (1, .int v1_4), (0, .ref m)]) h d_X8_clause_208 _ hml (by decide) rfl ?_
                              refine pw_aload_n h 5 d_X8_clause_210 rfl ?_
                              refine pw_getR (j := (m + 10)) 8 h d_X8_clause_211 fd_RX8_41 (by assumption) rfl (by assumption) ?_
                              refine pw_iload_n h 2 d_X8_clause_214 rfl ?_
                              refine pw_aload_n h 5 d_X8_clause_215 rfl ?_
                              refine pw_getI 8 h d_X8_clause_216 fd_RX8_166 (by assumption) rfl ?_
                              refine pw_if_eq 231 h d_X8_clause_219 (by decide) (fun c_219 => ?_) (fun c_219 => ?_)
                              · skip
                                refine pw_iload h 0 d_X8_clause_231 rfl ?_
                                refine pw_iast h d_X8_clause_233 (by assumption) (by assumption) ?_
                                refine pw_vret h hr d_X8_clause_234 (by decide) (by decide) ?_
                                have ho := hx8.resolve_right (fun q => absurd (q.1.symm.trans c_219) (by decide))
                                exact cl_weight (frM_N fN8) (RdM_N R5 f8 ho.2.2.2.2 ho.1 (numZ_le (skT hle4)).2) hp (e5_208.trans ho.2.2.2.1) ho.2.2.1.2.2 (by unfold pCl; rw [if_neg h98, if_pos hc, pW_ok hgood.2.1 (hgood.2.2.1 ▸ hno), ← hgood.2.2.1, ← he]; exact pW2_ok heq ho.2.2.1)
                              · skip
                                refine pw_aload_n h 5 d_X8_clause_222 rfl ?_
                                refine pw_getR (j := (m + 10)) 8 h d_X8_clause_223 fd_RX8_41 (by assumption) rfl (by assumption) ?_
                                refine pw_iload_n h 2 d_X8_clause_226 rfl ?_
                                refine pw_iald h d_X8_clause_227 (by assumption) (by assumption) ?_
                                refine pw_goto 233 h d_X8_clause_228 (by decide) ?_
                                refine pw_iast h d_X8_clause_233 (by assumption) (by assumption) ?_
                                refine pw_vret h hr d_X8_clause_234 (by decide) (by decide) ?_
                                have ho := hx8.resolve_left (fun q => c_219 q.1)
                                rw [← u2_self (rfl : I8 (m + 10) p = I8 (m + 10) p)]
                                exact cl_fail (frM_N fN8) ho.1 (ho.2.2.1 rfl).2 (by unfold pCl; rw [if_neg h98, if_pos hc, pW_ok hgood.2.1 (hgood.2.2.1 ▸ hno), ← hgood.2.2.1, ← he]; exact pW2_no heq (ho.2.2.1 rfl).1)
                        · exact absurd (e4_147.symm.trans c_165) (by decide)
              · exact absurd (ec.symm.trans c_114) (by decide)
            · exact absurd (ec.symm.trans c_79) (by decide)
          · exact absurd u2_s c_62
        · exact absurd (e2_37.symm.trans c_47) (by decide)
    · exact absurd ec c_23
  · exact absurd (ec.symm.trans c_8) (by decide)

set_option maxHeartbeats 4000000 in
set_option maxRecDepth 100000 in
theorem c_X8_clauseF {sh : Sh} {I : IM} {L : LM} {R : RM} {m T a : Nat} {s0 : Int32} {D : DR} (hM : ModF sh R m) (hRD : RdM I m T a s0 D) (hc : nxt (I (m + 7)) (skB (I (m + 7)) a T) T = 102) : PMet M_X8_clause [.ref m] sh I L R (clP sh I L R m T s0 (pCl (I (m + 7)) T a D)) := by
  refine PMet.of mf_X8_clause (Nat.le_of_ble_eq_true rfl) ?_
  intro X h hr hml
  have hml : (xc X).maxLocals = 7 := hml
  have h : PXok X RX8 cX8_clause 4 0 0 := h
  have hr : PXr X none "clause" _ 0 0 := hr
  have hM0 := hM
  obtain ⟨f0, f1, f2, f3, f4, f5, f6, f7, f8, f9, f10, f11, f12, f13, f14, f15, f16, f17, f18, f19, f20, f21, f22, f23, f24, f25, f26, f27, g1, g2, g3, g4, g5, g6, g7, g8, g9, g10, g11, g12, g13, g14, g15, g16, g17, g18, g19, g20, g21, g22, g23, g24, g25, g26, g27⟩ := hM
  have hT2 := hRD.2.2.2.2.1
  have haT := hRD.2.2.2.1
  show PW X 0 [(0, .ref m)] [] sh I L R 0 0
  refine pw_aload_n h 0 d_X8_clause_0 rfl ?_
  refine pw_callV (As := []) h d_X8_clause_1 mf_X8_next mi_X8_next ml_RX8_170 ⟨by decide, by decide, by decide⟩ (by assumption) rfl rfl (Nat.le_of_ble_eq_true rfl) trivial (c_X8_next hM0 hRD.1 hRD.2.1 hT2 haT) ?_
  intro ret1 sh1 I1 L1 R1 hp1
  obtain ⟨e0, e1, eI, eL, eR⟩ := hp1
  subst e0
  have e1 := e1.symm
  have eR := eR.symm
  have eL := eL.symm
  subst e1
  subst eR
  subst eL
  refine ⟨rfl, ?_⟩
  have fN1 : frN m I I1 := by rw [eI]; exact frN_u (Or.inl rfl)
  have w1 : I1 m 11 = 0 := by rw [eI, u2_n2 (by decide)]; exact hRD.2.2.1
  have R1 : RdM I1 m T (skB (I (m + 7)) a T) s0 D := RdM_N hRD fN1 (by rw [eI]; exact u2_s) w1 (skT haT)
  have x1 : I1 (m + 7) = I (m + 7) := frN_f fN1 (by decide)
  clear eI
  refine pw_nmI (fun v1_4 e1_4 => ?_)
  refine pw_istore_n (lv' := [(1, .int v1_4), (0, .ref m)]) h d_X8_clause_4 rfl _ hml (by decide) rfl ?_
  have ec : v1_4 = 102 := by rw [e1_4]; exact (nx0_c (by decide) (by decide)).mpr hc
  have h98 : ¬ nxt (I (m + 7)) (skB (I (m + 7)) a T) T = 98 := by rw [hc]; decide
  have h119 : ¬ nxt (I (m + 7)) (skB (I (m + 7)) a T) T = 119 := by rw [hc]; decide
  refine pw_iload_n h 0 d_X8_clause_5 rfl ?_
  refine pw_bipush (x := 98) h d_X8_clause_6 (by decide) ?_
  refine pw_icmp_ne 20 h d_X8_clause_8 (by decide) (fun c_8 => ?_) (fun c_8 => ?_)
  · skip
    refine pw_iload_n h 0 d_X8_clause_20 rfl ?_
    refine pw_bipush (x := 119) h d_X8_clause_21 (by decide) ?_
    refine pw_icmp_eq 32 h d_X8_clause_23 (by decide) (fun c_23 => ?_) (fun c_23 => ?_)
    · exact absurd (ec.symm.trans c_23) (by decide)
    · skip
      refine pw_iload_n h 0 d_X8_clause_26 rfl ?_
      refine pw_bipush (x := 102) h d_X8_clause_27 (by decide) ?_
      refine pw_icmp_ne 36 h d_X8_clause_29 (by decide) (fun c_29 => ?_) (fun c_29 => ?_)
      · exact absurd ec c_29
      · skip
        refine pw_iconst (x := 1) h d_X8_clause_32 (by decide) ?_
        refine pw_goto 37 h d_X8_clause_33 (by decide) ?_
        refine pw_nmI (fun v2_37 e2_37 => ?_)
        refine pw_istore_n (lv' := [(2, .int v2_37), (1, .int v1_4), (0, .ref m)]) h d_X8_clause_37 rfl _ hml (by decide) rfl ?_
        refine pw_aload_n h 2 d_X8_clause_38 rfl ?_
        refine pw_aload_n h 2 d_X8_clause_39 rfl ?_
        refine pw_getI 8 h d_X8_clause_40 fd_RX8_166 (by assumption) rfl ?_
        refine pw_if_ne 50 h d_X8_clause_43 (by decide) (fun c_43 => ?_) (fun c_43 => ?_)
        · exact absurd w1 c_43
        · skip
          refine pw_iload_n h 0 d_X8_clause_46 rfl ?_
          refine pw_if_ne 54 h d_X8_clause_47 (by decide) (fun c_47 => ?_) (fun c_47 => ?_)
          · skip
            refine pw_iconst (x := 0) h d_X8_clause_54 (by decide) ?_
            refine pw_putI 8 h d_X8_clause_55 fd_RX8_166 (by assumption) rfl rfl rfl (by first | exact Or.inl rfl | exact Or.inr rfl | rfl | decide) ?_
            refine pw_aload_n h 2 d_X8_clause_58 rfl ?_
            refine pw_getI 8 h d_X8_clause_59 fd_RX8_166 (by assumption) rfl ?_
            refine pw_if_eq 66 h d_X8_clause_62 (by decide) (fun c_62 => ?_) (fun c_62 => ?_)
            · skip
              refine pw_aload_n h 2 d_X8_clause_66 rfl ?_
              refine pw_dupR h d_X8_clause_67 ?_
              refine pw_getI 8 h d_X8_clause_68 fd_RX8_163 (by assumption) rfl ?_
              refine pw_iconst (x := 1) h d_X8_clause_71 (by decide) ?_
              refine pw_iadd h d_X8_clause_72 ?_
              refine pw_putI 8 h d_X8_clause_73 fd_RX8_163 (by assumption) rfl rfl rfl rfl ?_
              obtain ⟨I2, eI2⟩ : ∃ I2, I2 = setW m I1 0 1 := ⟨_, rfl⟩
              refine pw_mem (I' := I2) eI2.symm rfl rfl ?_
              have fN2 : frN m I I2 := by rw [eI2]; exact frN_t fN1 setW_fr
              have hlt := nxt_lt hc (by decide)
              have R2 : RdM I2 m T ((skB (I (m + 7)) a T) + 1) s0 D := RdM_N R1 (by rw [eI2]; exact setW_fr) (by rw [eI2]; exact setW_1 R1.2.1) (by rw [eI2]; exact setW_w) hlt
              have x2 : I2 (m + 7) = I (m + 7) := frN_f fN2 (by decide)
              refine pw_iload_n h 1 d_X8_clause_76 rfl ?_
              refine pw_bipush (x := 102) h d_X8_clause_77 (by decide) ?_
              refine pw_icmp_ne 110 h d_X8_clause_79 (by decide) (fun c_79 => ?_) (fun c_79 => ?_)
              · exact absurd ec c_79
              · skip
                refine pw_aload_n h 2 d_X8_clause_82 rfl ?_
                refine pw_iconst (x := 1) h d_X8_clause_83 (by decide) ?_
                refine pw_bipush (x := 20) h d_X8_clause_84 (by decide) ?_
                refine pw_callV (As := [.int _, .int _]) h d_X8_clause_86 mf_X8_number mi_X8_number ml_RX8_178 ⟨by decide, by decide, by decide⟩ (by assumption) rfl rfl (Nat.le_of_ble_eq_true rfl) trivial (c_X8_number hM0 R2.1 R2.2.1 hT2 R2.2.2.2.1 (wr := false) R2.2.2.1 (lo := 1) (hi := 20) rfl rfl (by decide)) ?_
                intro ret8 sh8 I8 L8 R8 hp8
                obtain ⟨e1, eR, eL, f8, x, ex, hx8⟩ := hp8
                have e1 := e1.symm
                have eR := eR.symm
                have eL := eL.symm
                subst e1
                subst eR
                subst eL
                subst ex
                rw [x2] at hx8
                have fN8 : frN m I I8 := frN_t fN2 f8
                have D8 : DrM I8 m s0 D := DrM_N R2.2.2.2.2.2.2 f8
                refine ⟨rfl, ?_⟩
                refine pw_nmI (fun v3_89 e3_89 => ?_)
                refine pw_istore_n (lv' := [(3, .int v3_89), (2, .int v2_37), (1, .int v1_4), (0, .ref m)]) h d_X8_clause_89 rfl _ hml (by decide) rfl ?_
                refine pw_aload_n h 3 d_X8_clause_90 rfl ?_
                refine pw_aload_n h 3 d_X8_clause_91 rfl ?_
                refine pw_getI 8 h d_X8_clause_92 fd_RX8_166 (by assumption) rfl ?_
                refine pw_if_eq 105 h d_X8_clause_95 (by decide) (fun c_95 => ?_) (fun c_95 => ?_)
                · skip
                  refine pw_iload_n h 0 d_X8_clause_105 rfl ?_
                  refine pw_putI 8 h d_X8_clause_106 fd_RX8_184 (by assumption) rfl rfl rfl rfl ?_
                  refine pw_vret h hr d_X8_clause_109 (by decide) (by decide) ?_
                  have ho := hx8.resolve_right (fun q => absurd (q.1.symm.trans c_95) (by decide))
                  exact cl_stiff (frM_N fN8) (RdM_N R2 f8 ho.2.2.2.2 ho.1 (numZ_le (skT hlt)).2) (e3_89.trans ho.2.2.2.1) ho.2.2.1.2 (by unfold pCl; rw [if_neg h98, if_neg h119, if_pos hc]; exact pF_ok ho.2.2.1)
                · skip
                  refine pw_aload_n h 3 d_X8_clause_98 rfl ?_
                  refine pw_getI 8 h d_X8_clause_99 fd_RX8_184 (by assumption) rfl ?_
                  refine pw_goto 106 h d_X8_clause_102 (by decide) ?_
                  refine pw_putI 8 h d_X8_clause_106 fd_RX8_184 (by assumption) rfl rfl rfl rfl ?_
                  refine pw_vret h hr d_X8_clause_109 (by decide) (by decide) ?_
                  have ho := hx8.resolve_left (fun q => c_95 q.1)
                  rw [← u2_self (rfl : I8 m 16 = I8 m 16)]
                  exact cl_fail (frM_N fN8) ho.1 (ho.2.2.1 rfl).2 (by unfold pCl; rw [if_neg h98, if_neg h119, if_pos hc]; exact pF_no (ho.2.2.1 rfl).1)
            · exact absurd u2_s c_62
          · exact absurd (e2_37.symm.trans c_47) (by decide)
  · exact absurd (ec.symm.trans c_8) (by decide)

set_option maxHeartbeats 4000000 in
set_option maxRecDepth 100000 in
theorem c_X8_clauseX {sh : Sh} {I : IM} {L : LM} {R : RM} {m T a : Nat} {s0 : Int32} {D : DR} (hM : ModF sh R m) (hRD : RdM I m T a s0 D) (h98 : nxt (I (m + 7)) (skB (I (m + 7)) a T) T = 98 → ¬ D.1.length < 6) (h119 : ¬ nxt (I (m + 7)) (skB (I (m + 7)) a T) T = 119) (h102 : ¬ nxt (I (m + 7)) (skB (I (m + 7)) a T) T = 102) : PMet M_X8_clause [.ref m] sh I L R (clP sh I L R m T s0 (pCl (I (m + 7)) T a D)) := by
  refine PMet.of mf_X8_clause (Nat.le_of_ble_eq_true rfl) ?_
  intro X h hr hml
  have hml : (xc X).maxLocals = 7 := hml
  have h : PXok X RX8 cX8_clause 4 0 0 := h
  have hr : PXr X none "clause" _ 0 0 := hr
  have hM0 := hM
  obtain ⟨f0, f1, f2, f3, f4, f5, f6, f7, f8, f9, f10, f11, f12, f13, f14, f15, f16, f17, f18, f19, f20, f21, f22, f23, f24, f25, f26, f27, g1, g2, g3, g4, g5, g6, g7, g8, g9, g10, g11, g12, g13, g14, g15, g16, g17, g18, g19, g20, g21, g22, g23, g24, g25, g26, g27⟩ := hM
  have hT2 := hRD.2.2.2.2.1
  have haT := hRD.2.2.2.1
  show PW X 0 [(0, .ref m)] [] sh I L R 0 0
  refine pw_aload_n h 0 d_X8_clause_0 rfl ?_
  refine pw_callV (As := []) h d_X8_clause_1 mf_X8_next mi_X8_next ml_RX8_170 ⟨by decide, by decide, by decide⟩ (by assumption) rfl rfl (Nat.le_of_ble_eq_true rfl) trivial (c_X8_next hM0 hRD.1 hRD.2.1 hT2 haT) ?_
  intro ret1 sh1 I1 L1 R1 hp1
  obtain ⟨e0, e1, eI, eL, eR⟩ := hp1
  subst e0
  have e1 := e1.symm
  have eR := eR.symm
  have eL := eL.symm
  subst e1
  subst eR
  subst eL
  refine ⟨rfl, ?_⟩
  have fN1 : frN m I I1 := by rw [eI]; exact frN_u (Or.inl rfl)
  have w1 : I1 m 11 = 0 := by rw [eI, u2_n2 (by decide)]; exact hRD.2.2.1
  have R1 : RdM I1 m T (skB (I (m + 7)) a T) s0 D := RdM_N hRD fN1 (by rw [eI]; exact u2_s) w1 (skT haT)
  have x1 : I1 (m + 7) = I (m + 7) := frN_f fN1 (by decide)
  clear eI
  refine pw_nmI (fun v1_4 e1_4 => ?_)
  refine pw_istore_n (lv' := [(1, .int v1_4), (0, .ref m)]) h d_X8_clause_4 rfl _ hml (by decide) rfl ?_
  refine pw_iload_n h 0 d_X8_clause_5 rfl ?_
  refine pw_bipush (x := 98) h d_X8_clause_6 (by decide) ?_
  refine pw_icmp_ne 20 h d_X8_clause_8 (by decide) (fun c_8 => ?_) (fun c_8 => ?_)
  · skip
    refine pw_iload_n h 0 d_X8_clause_20 rfl ?_
    refine pw_bipush (x := 119) h d_X8_clause_21 (by decide) ?_
    refine pw_icmp_eq 32 h d_X8_clause_23 (by decide) (fun c_23 => ?_) (fun c_23 => ?_)
    · exact absurd ((nx0_c (by decide) (by decide)).mp (e1_4.symm.trans c_23)) h119
    · skip
      refine pw_iload_n h 0 d_X8_clause_26 rfl ?_
      refine pw_bipush (x := 102) h d_X8_clause_27 (by decide) ?_
      refine pw_icmp_ne 36 h d_X8_clause_29 (by decide) (fun c_29 => ?_) (fun c_29 => ?_)
      · skip
        refine pw_iconst (x := 0) h d_X8_clause_36 (by decide) ?_
        refine pw_nmI (fun v2_37 e2_37 => ?_)
        refine pw_istore_n (lv' := [(2, .int v2_37), (1, .int v1_4), (0, .ref m)]) h d_X8_clause_37 rfl _ hml (by decide) rfl ?_
        refine pw_aload_n h 2 d_X8_clause_38 rfl ?_
        refine pw_aload_n h 2 d_X8_clause_39 rfl ?_
        refine pw_getI 8 h d_X8_clause_40 fd_RX8_166 (by assumption) rfl ?_
        refine pw_if_ne 50 h d_X8_clause_43 (by decide) (fun c_43 => ?_) (fun c_43 => ?_)
        · exact absurd w1 c_43
        · skip
          refine pw_iload_n h 0 d_X8_clause_46 rfl ?_
          refine pw_if_ne 54 h d_X8_clause_47 (by decide) (fun c_47 => ?_) (fun c_47 => ?_)
          · exact absurd e2_37 c_47
          · skip
            refine pw_iconst (x := 1) h d_X8_clause_50 (by decide) ?_
            refine pw_goto 55 h d_X8_clause_51 (by decide) ?_
            refine pw_putI 8 h d_X8_clause_55 fd_RX8_166 (by assumption) rfl rfl rfl (by first | exact Or.inl rfl | exact Or.inr rfl | rfl | decide) ?_
            refine pw_aload_n h 2 d_X8_clause_58 rfl ?_
            refine pw_getI 8 h d_X8_clause_59 fd_RX8_166 (by assumption) rfl ?_
            refine pw_if_eq 66 h d_X8_clause_62 (by decide) (fun c_62 => ?_) (fun c_62 => ?_)
            · exact absurd (u2_s.symm.trans c_62) (by decide)
            · skip
              refine pw_vret h hr d_X8_clause_65 (by decide) (by decide) ?_
              refine cl_fail (frM_N (frN_t fN1 (frN_u (Or.inr rfl)))) u2_s ((u2_n2 (by decide)).trans R1.2.1) ?_
              unfold pCl
              by_cases q : nxt (I (m + 7)) (skB (I (m + 7)) a T) T = 98
              · rw [if_pos q, if_neg (h98 q)]
              · rw [if_neg q, if_neg h119, if_neg h102]
      · exact absurd ((nx0_c (by decide) (by decide)).mp (e1_4.symm.trans c_29)) h102
  · skip
    refine pw_aload_n h 1 d_X8_clause_11 rfl ?_
    refine pw_getI 8 h d_X8_clause_12 fd_RX8_181 (by assumption) rfl ?_
    refine pw_bipush (x := 6) h d_X8_clause_15 (by decide) ?_
    refine pw_icmp_lt 32 h d_X8_clause_17 (by decide) (fun c_17 => ?_) (fun c_17 => ?_)
    · exact absurd c_17 (k_lt2x R1.2.2.2.2.2.2.1 (rdM_len hRD) (h98 ((nx0_c (by decide) (by decide)).mp (e1_4.symm.trans c_8))))
    · skip
      refine pw_iload_n h 0 d_X8_clause_20 rfl ?_
      refine pw_bipush (x := 119) h d_X8_clause_21 (by decide) ?_
      refine pw_icmp_eq 32 h d_X8_clause_23 (by decide) (fun c_23 => ?_) (fun c_23 => ?_)
      · exact absurd ((nx0_c (by decide) (by decide)).mp (e1_4.symm.trans c_23)) h119
      · skip
        refine pw_iload_n h 0 d_X8_clause_26 rfl ?_
        refine pw_bipush (x := 102) h d_X8_clause_27 (by decide) ?_
        refine pw_icmp_ne 36 h d_X8_clause_29 (by decide) (fun c_29 => ?_) (fun c_29 => ?_)
        · skip
          refine pw_iconst (x := 0) h d_X8_clause_36 (by decide) ?_
          refine pw_nmI (fun v2_37 e2_37 => ?_)
          refine pw_istore_n (lv' := [(2, .int v2_37), (1, .int v1_4), (0, .ref m)]) h d_X8_clause_37 rfl _ hml (by decide) rfl ?_
          refine pw_aload_n h 2 d_X8_clause_38 rfl ?_
          refine pw_aload_n h 2 d_X8_clause_39 rfl ?_
          refine pw_getI 8 h d_X8_clause_40 fd_RX8_166 (by assumption) rfl ?_
          refine pw_if_ne 50 h d_X8_clause_43 (by decide) (fun c_43 => ?_) (fun c_43 => ?_)
          · exact absurd w1 c_43
          · skip
            refine pw_iload_n h 0 d_X8_clause_46 rfl ?_
            refine pw_if_ne 54 h d_X8_clause_47 (by decide) (fun c_47 => ?_) (fun c_47 => ?_)
            · exact absurd e2_37 c_47
            · skip
              refine pw_iconst (x := 1) h d_X8_clause_50 (by decide) ?_
              refine pw_goto 55 h d_X8_clause_51 (by decide) ?_
              refine pw_putI 8 h d_X8_clause_55 fd_RX8_166 (by assumption) rfl rfl rfl (by first | exact Or.inl rfl | exact Or.inr rfl | rfl | decide) ?_
              refine pw_aload_n h 2 d_X8_clause_58 rfl ?_
              refine pw_getI 8 h d_X8_clause_59 fd_RX8_166 (by assumption) rfl ?_
              refine pw_if_eq 66 h d_X8_clause_62 (by decide) (fun c_62 => ?_) (fun c_62 => ?_)
              · exact absurd (u2_s.symm.trans c_62) (by decide)
              · skip
                refine pw_vret h hr d_X8_clause_65 (by decide) (by decide) ?_
                refine cl_fail (frM_N (frN_t fN1 (frN_u (Or.inr rfl)))) u2_s ((u2_n2 (by decide)).trans R1.2.1) ?_
                unfold pCl
                by_cases q : nxt (I (m + 7)) (skB (I (m + 7)) a T) T = 98
                · rw [if_pos q, if_neg (h98 q)]
                · rw [if_neg q, if_neg h119, if_neg h102]
        · exact absurd ((nx0_c (by decide) (by decide)).mp (e1_4.symm.trans c_29)) h102

theorem c_X8_clause {sh : Sh} {I : IM} {L : LM} {R : RM} {m T a : Nat} {s0 : Int32} {D : DR} (hM : ModF sh R m) (hRD : RdM I m T a s0 D) : PMet M_X8_clause [.ref m] sh I L R (clP sh I L R m T s0 (pCl (I (m + 7)) T a D)) := by
  by_cases h119 : nxt (I (m + 7)) (skB (I (m + 7)) a T) T = 119
  · exact c_X8_clauseW hM hRD h119
  by_cases h102 : nxt (I (m + 7)) (skB (I (m + 7)) a T) T = 102
  · exact c_X8_clauseF hM hRD h102
  by_cases h98 : nxt (I (m + 7)) (skB (I (m + 7)) a T) T = 98
  · by_cases h6 : D.1.length < 6
    · exact c_X8_clauseB hM hRD h98 h6
    · exact c_X8_clauseX hM hRD (fun _ => h6) h119 h102
  · exact c_X8_clauseX hM hRD (fun q => absurd q h98) h119 h102
