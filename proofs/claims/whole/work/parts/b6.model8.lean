set_option maxHeartbeats 4000000 in
set_option maxRecDepth 100000 in
theorem c_X8_clauseB {sh : Sh} {I : IM} {L : LM} {R : RM} {m T a : Nat} {s0 : Int32} {D : DR} (hM : ModF sh R m) (hRD : RdM I m T a s0 D) (hc : nxt (I (m + 7)) (skB (I (m + 7)) a T) T = 98) (h6 : D.1.length < 6) : PMet M_X8_clause [.ref m] sh I L R (clP sh I L R m T s0 (pCl (I (m + 7)) T a D)) := by
  refine PMet.of mf_X8_clause (Nat.le_of_ble_eq_true rfl) ?_
  intro X h hr hml
  have hml : (xc X).maxLocals = 7 := hml
  have h : PXok X RX8 cX8_clause 4 0 0 := h
  have hr : PXr X none "clause" _ 0 0 := hr
  have hM0 := hM
  obtain ⟨f0, f1, f2, f3, f4, f5, f6, f7, f8, f9, f10, f11, f12, f13, f14, f15, f16, f17, f18, f19, f20, f21, f22, f23, f24, f25, f26, f27, g1, g2, g3, g4, g5, g6, g7, g8, g9, g10, g11, g12, g13, g14, g15, g16, g17, g18, g19, g20, g21, g22, g23, g24, g25, g26, g27⟩ := hM
  have hT2 := hRD.2.2.2.2.1
  have haT := hRD.2.2.2.1
  show PW X 0 [(0, .ref m)] [] sh I L R 0 0
  refine pw_aload_n h 0 d_X8_clause_0 rfl ?_
  refine pw_callV (As := []) h d_X8_clause_1 mf_X8_next mi_X8_next ml_RX8_170 ⟨by decide, by decide, by decide⟩ (by assumption) rfl rfl (Nat.le_of_ble_eq_true rfl) trivial (c_X8_next hM0 hRD.1 hRD.2.1 hT2 haT) ?_
  intro ret1 sh1 I1 L1 R1 hp1
  obtain ⟨e0, e1, eI, eL, eR⟩ := hp1
  subst e0
  have e1 := e1.symm
  have eR := eR.symm
  have eL := eL.symm
  subst e1
  subst eR
  subst eL
  refine ⟨rfl, ?_⟩
  have fN1 : frN m I I1 := by rw [eI]; exact frN_u (Or.inl rfl)
  have w1 : I1 m 11 = 0 := by rw [eI, u2_n2 (by decide)]; exact hRD.2.2.1
  have R1 : RdM I1 m T (skB (I (m + 7)) a T) s0 D := RdM_N hRD fN1 (by rw [eI]; exact u2_s) w1 (skT haT)
  have x1 : I1 (m + 7) = I (m + 7) := frN_f fN1 (by decide)
  clear eI
  refine pw_nmI (fun v1_4 e1_4 => ?_)
  refine pw_istore_n (lv' := [(1, .int v1_4), (0, .ref m)]) h d_X8_clause_4 rfl _ hml (by decide) rfl ?_
  have ec : v1_4 = 98 := by rw [e1_4]; exact (nx0_c (by decide) (by decide)).mpr hc
  refine pw_iload_n h 0 d_X8_clause_5 rfl ?_
  refine pw_bipush (x := 98) h d_X8_clause_6 (by decide) ?_
  refine pw_icmp_ne 20 h d_X8_clause_8 (by decide) (fun c_8 => ?_) (fun c_8 => ?_)
  · exact absurd ec c_8
  · skip
    refine pw_aload_n h 1 d_X8_clause_11 rfl ?_
    refine pw_getI 8 h d_X8_clause_12 fd_RX8_181 (by assumption) rfl ?_
    refine pw_bipush (x := 6) h d_X8_clause_15 (by decide) ?_
    refine pw_icmp_lt 32 h d_X8_clause_17 (by decide) (fun c_17 => ?_) (fun c_17 => ?_)
    · skip
      refine pw_iconst (x := 1) h d_X8_clause_32 (by decide) ?_
      refine pw_goto 37 h d_X8_clause_33 (by decide) ?_
      refine pw_nmI (fun v2_37 e2_37 => ?_)
      refine pw_istore_n (lv' := [(2, .int v2_37), (1, .int v1_4), (0, .ref m)]) h d_X8_clause_37 rfl _ hml (by decide) rfl ?_
      refine pw_aload_n h 2 d_X8_clause_38 rfl ?_
      refine pw_aload_n h 2 d_X8_clause_39 rfl ?_
      refine pw_getI 8 h d_X8_clause_40 fd_RX8_166 (by assumption) rfl ?_
      refine pw_if_ne 50 h d_X8_clause_43 (by decide) (fun c_43 => ?_) (fun c_43 => ?_)
      · exact absurd w1 c_43
      · skip
        refine pw_iload_n h 0 d_X8_clause_46 rfl ?_
        refine pw_if_ne 54 h d_X8_clause_47 (by decide) (fun c_47 => ?_) (fun c_47 => ?_)
        · skip
          refine pw_iconst (x := 0) h d_X8_clause_54 (by decide) ?_
          refine pw_putI 8 h d_X8_clause_55 fd_RX8_166 (by assumption) rfl rfl rfl (by first | exact Or.inl rfl | exact Or.inr rfl | rfl | decide) ?_
          refine pw_aload_n h 2 d_X8_clause_58 rfl ?_
          refine pw_getI 8 h d_X8_clause_59 fd_RX8_166 (by assumption) rfl ?_
          refine pw_if_eq 66 h d_X8_clause_62 (by decide) (fun c_62 => ?_) (fun c_62 => ?_)
          · skip
            refine pw_aload_n h 2 d_X8_clause_66 rfl ?_
            refine pw_dupR h d_X8_clause_67 ?_
            refine pw_getI 8 h d_X8_clause_68 fd_RX8_163 (by assumption) rfl ?_
            refine pw_iconst (x := 1) h d_X8_clause_71 (by decide) ?_
            refine pw_iadd h d_X8_clause_72 ?_
            refine pw_putI 8 h d_X8_clause_73 fd_RX8_163 (by assumption) rfl rfl rfl rfl ?_
            obtain ⟨I2, eI2⟩ : ∃ I2, I2 = setW m I1 0 1 := ⟨_, rfl⟩
            refine pw_mem (I' := I2) eI2.symm rfl rfl ?_
            have fN2 : frN m I I2 := by rw [eI2]; exact frN_t fN1 setW_fr
            have hlt := nxt_lt hc (by decide)
            have R2 : RdM I2 m T ((skB (I (m + 7)) a T) + 1) s0 D := RdM_N R1 (by rw [eI2]; exact setW_fr) (by rw [eI2]; exact setW_1 R1.2.1) (by rw [eI2]; exact setW_w) hlt
            have x2 : I2 (m + 7) = I (m + 7) := frN_f fN2 (by decide)
            refine pw_iload_n h 1 d_X8_clause_76 rfl ?_
            refine pw_bipush (x := 102) h d_X8_clause_77 (by decide) ?_
            refine pw_icmp_ne 110 h d_X8_clause_79 (by decide) (fun c_79 => ?_) (fun c_79 => ?_)
            · skip
              refine pw_aload_n h 2 d_X8_clause_110 rfl ?_
              refine pw_iload_n h 1 d_X8_clause_111 rfl ?_
              refine pw_bipush (x := 98) h d_X8_clause_112 (by decide) ?_
              refine pw_icmp_ne 121 h d_X8_clause_114 (by decide) (fun c_114 => ?_) (fun c_114 => ?_)
              · exact absurd ec c_114
              · skip
                refine pw_iconst (x := 1) h d_X8_clause_117 (by decide) ?_
                refine pw_goto 122 h d_X8_clause_118 (by decide) ?_
                refine pw_callV (As := [.int _]) h d_X8_clause_122 mf_X8_figure mi_X8_figure ml_RX8_187 ⟨by decide, by decide, by decide⟩ (by assumption) rfl rfl (Nat.le_of_ble_eq_true rfl) trivial (c_X8_figure1 hM0 R2.1 R2.2.1 hT2 R2.2.2.2.1 R2.2.2.1 R2.2.2.2.2.2.2.1 (rdM_len R2)) ?_
                intro ret3 sh3 I3 L3 R3 hp3
                obtain ⟨e1, eR, eL, f3, p, hp, ex, hx3⟩ := hp3
                have e1 := e1.symm
                have eR := eR.symm
                have eL := eL.symm
                subst e1
                subst eR
                subst eL
                subst ex
                have fN3 : frN m I I3 := frN_t fN2 f3
                have x3 : I3 (m + 7) = I (m + 7) := frN_f fN3 (by decide)
                rw [x2] at hx3
                skip
                refine ⟨rfl, ?_⟩
                refine pw_nmI (fun v3_125 e3_125 => ?_)
                refine pw_istore_n (lv' := [(3, .int v3_125), (2, .int v2_37), (1, .int v1_4), (0, .ref m)]) h d_X8_clause_125 rfl _ hml (by decide) rfl ?_
                refine pw_aload_n h 3 d_X8_clause_126 rfl ?_
                refine pw_getI 8 h d_X8_clause_127 fd_RX8_166 (by assumption) rfl ?_
                refine pw_if_ne 146 h d_X8_clause_130 (by decide) (fun c_130 => ?_) (fun c_130 => ?_)
                · skip
                  have hbad := hx3.resolve_left (fun q => c_130 q.1)
                  clear hx3
                  have hoq : okZ (I (m + 7)) T ((skB (I (m + 7)) a T) + 1) 0 12 → orB (fun k => decide (I2 (m + 8) k = nI (numZ (I (m + 7)) T (skB (I (m + 7)) ((skB (I (m + 7)) a T) + 1) T)).2)) D.1.length = true → hasP D.1 (numZ (I (m + 7)) T (skB (I (m + 7)) ((skB (I (m + 7)) a T) + 1) T)).2 = true := fun q => (orB_P R2.2.2.2.2.2.2 R2.2.2.2.2.2.1 (by have := q.2.2; omega)).mp
                  refine pw_iconst (x := 0) h d_X8_clause_146 (by decide) ?_
                  refine pw_nmI (fun v4_147 e4_147 => ?_)
                  refine pw_istore (lv' := [(4, .int v4_147), (3, .int v3_125), (2, .int v2_37), (1, .int v1_4), (0, .ref m)]) h d_X8_clause_147 _ hml (by decide) rfl ?_
                  refine pw_aload_n h 4 d_X8_clause_149 rfl ?_
                  refine pw_aload_n h 4 d_X8_clause_150 rfl ?_
                  refine pw_getI 8 h d_X8_clause_151 fd_RX8_166 (by assumption) rfl ?_
                  refine pw_if_ne 168 h d_X8_clause_154 (by decide) (fun c_154 => ?_) (fun c_154 => ?_)
                  · skip
                    refine pw_iconst (x := 1) h d_X8_clause_168 (by decide) ?_
                    refine pw_goto 173 h d_X8_clause_169 (by decide) ?_
                    refine pw_putI 8 h d_X8_clause_173 fd_RX8_166 (by assumption) rfl rfl rfl (by first | exact Or.inl rfl | exact Or.inr rfl | rfl | decide) ?_
                    refine pw_aload_n h 4 d_X8_clause_176 rfl ?_
                    refine pw_dupR h d_X8_clause_177 ?_
                    refine pw_getI 8 h d_X8_clause_178 fd_RX8_163 (by assumption) rfl ?_
                    refine pw_iload h 0 d_X8_clause_181 rfl ?_
                    refine pw_if_eq 190 h d_X8_clause_183 (by decide) (fun c_183 => ?_) (fun c_183 => ?_)
                    · skip
                      refine pw_iconst (x := 0) h d_X8_clause_190 (by decide) ?_
                      refine pw_iadd h d_X8_clause_191 ?_
                      refine pw_putI 8 h d_X8_clause_192 fd_RX8_163 (by assumption) rfl rfl rfl rfl ?_
                      obtain ⟨I5, eI5⟩ : ∃ I5, I5 = setW m I3 1 0 := ⟨_, rfl⟩
                      refine pw_mem (I' := I5) eI5.symm rfl rfl ?_
                      have fN5 : frN m I I5 := by rw [eI5]; exact frN_t fN3 setW_fr
                      have a5 : I5 m 10 = nI (skB (I (m + 7)) ((skB (I (m + 7)) a T) + 1) T) := by rw [eI5]; exact setW_0 hbad.2.2
                      have w5 : I5 m 11 = 1 := by rw [eI5]; exact setW_w
                      have D5 : DrM I5 m s0 D := by rw [eI5]; exact DrM_N R2.2.2.2.2.2.2 (frN_t f3 setW_fr)
                      refine pw_iload_n h 3 d_X8_clause_195 rfl ?_
                      refine pw_bipush (x := 119) h d_X8_clause_196 (by decide) ?_
                      refine pw_icmp_ne 235 h d_X8_clause_198 (by decide) (fun c_198 => ?_) (fun c_198 => ?_)
                      · skip
                        refine pw_iload h 0 d_X8_clause_235 rfl ?_
                        refine pw_if_eq 253 h d_X8_clause_237 (by decide) (fun c_237 => ?_) (fun c_237 => ?_)
                        · skip
                          refine pw_iconst (x := 0) h d_X8_clause_253 (by decide) ?_
                          refine pw_nmI (fun v5_254 e5_254 => ?_)
                          refine pw_istore (lv' := [(5, .int v5_254), (4, .int v4_147), (3, .int v3_125), (2, .int v2_37), (1, .int v1_4), (0, .ref m)]) h d_X8_clause_254 _ hml (by decide) rfl ?_
                          refine pw_aload_n h 5 d_X8_clause_256 rfl ?_
                          refine pw_dupR h d_X8_clause_257 ?_
                          refine pw_getI 8 h d_X8_clause_258 fd_RX8_163 (by assumption) rfl ?_
                          refine pw_iload h 0 d_X8_clause_261 rfl ?_
                          refine pw_if_eq 270 h d_X8_clause_263 (by decide) (fun c_263 => ?_) (fun c_263 => ?_)
                          · skip
                            refine pw_iconst (x := 0) h d_X8_clause_270 (by decide) ?_
                            refine pw_iadd h d_X8_clause_271 ?_
                            refine pw_putI 8 h d_X8_clause_272 fd_RX8_163 (by assumption) rfl rfl rfl rfl ?_
                            obtain ⟨I7, eI7⟩ : ∃ I7, I7 = addA m I5 0 := ⟨_, rfl⟩
                            refine pw_mem (I' := I7) eI7.symm rfl rfl ?_
                            have fN7 : frN m I I7 := by rw [eI7]; exact frN_t fN5 addA_fr
                            have a7 : I7 m 10 = nI (skB (I (m + 7)) ((skB (I (m + 7)) a T) + 1) T) := by rw [eI7]; exact addA_0 a5
                            have w7 : I7 m 11 = 1 := by rw [eI7]; exact addA_w.trans w5
                            have D7 : DrM I7 m s0 D := by rw [eI7]; exact DrM_N D5 addA_fr
                            have hx7 : px_ix (I7 m 12) 6 D.1.length := k_ix D7.1 h6 (by decide)
                            refine pw_iload h 1 d_X8_clause_275 rfl ?_
                            refine pw_if_eq 290 h d_X8_clause_277 (by decide) (fun c_277 => ?_) (fun c_277 => ?_)
                            · skip
                              refine pw_iconst (x := 0) h d_X8_clause_290 (by decide) ?_
                              refine pw_nmI (fun v6_291 e6_291 => ?_)
                              refine pw_istore (lv' := [(6, .int v6_291), (5, .int v5_254), (4, .int v4_147), (3, .int v3_125), (2, .int v2_37), (1, .int v1_4), (0, .ref m)]) h d_X8_clause_291 _ hml (by decide) rfl ?_
                              refine pw_aload_n h 6 d_X8_clause_293 rfl ?_
                              refine pw_getR (j := (m + 8)) 8 h d_X8_clause_294 fd_RX8_35 (by assumption) rfl (by assumption) ?_
                              refine pw_aload_n h 6 d_X8_clause_297 rfl ?_
                              refine pw_getI 8 h d_X8_clause_298 fd_RX8_181 (by assumption) rfl ?_
                              refine pw_iload_n h 3 d_X8_clause_301 rfl ?_
                              refine pw_iast h d_X8_clause_302 (by assumption) (by assumption) ?_
                              refine pw_aload_n h 6 d_X8_clause_303 rfl ?_
                              refine pw_getR (j := (m + 9)) 8 h d_X8_clause_304 fd_RX8_38 (by assumption) rfl (by assumption) ?_
                              refine pw_aload_n h 6 d_X8_clause_307 rfl ?_
                              refine pw_getI 8 h d_X8_clause_308 fd_RX8_181 (by assumption) rfl ?_
                              refine pw_iload h 1 d_X8_clause_311 rfl ?_
                              refine pw_if_eq 322 h d_X8_clause_313 (by decide) (fun c_313 => ?_) (fun c_313 => ?_)
                              · skip
                                refine pw_iload h 0 d_X8_clause_322 rfl ?_
                                refine pw_iast h d_X8_clause_324 (by assumption) (by rw [u2_n1 (by omega)]; assumption) ?_
                                refine pw_aload_n h 6 d_X8_clause_325 rfl ?_
                                refine pw_dupR h d_X8_clause_326 ?_
                                refine pw_getI 8 h d_X8_clause_327 fd_RX8_181 (by assumption) rfl ?_
                                refine pw_iconst (x := 1) h d_X8_clause_330 (by decide) ?_
                                refine pw_iadd h d_X8_clause_331 ?_
                                refine pw_putI 8 h d_X8_clause_332 fd_RX8_181 (by assumption) rfl rfl rfl rfl ?_
                                refine pw_vret h hr d_X8_clause_335 (by decide) (by decide) ?_
                                exact cl_fail (frM_t (frM_N fN7) putM_fr) ((putM_w (by decide)).trans w7) ((putM_w (by decide)).trans a7) (by unfold pCl; rw [if_pos hc, if_pos h6]; exact pB_no (fun q => hbad.2.1 ⟨q.1, fun g => q.2 (hoq q.1 g)⟩))
                              · exact absurd e5_254 c_313
                            · exact absurd e4_147 c_277
                          · exact absurd e5_254 c_263
                        · exact absurd e4_147 c_237
                      · exact absurd (ec.symm.trans c_198) (by decide)
                    · exact absurd e4_147 c_183
                  · exact absurd (hbad.1.symm.trans c_154) (by decide)
                · skip
                  have hgood := hx3.resolve_right (fun q => absurd (q.1.symm.trans c_130) (by decide))
                  clear hx3
                  obtain ⟨e, he⟩ : ∃ e, e = (numZ (I (m + 7)) T (skB (I (m + 7)) ((skB (I (m + 7)) a T) + 1) T)).1 := ⟨_, rfl⟩
                  have heT : e ≤ T := by rw [he]; exact (numZ_le (skT hlt)).2
                  have R3 : RdM I3 m T e s0 D := RdM_N R2 f3 (by rw [he]; exact hgood.2.2.2.2) hgood.1 heT
                  have hno : ¬ hasP D.1 p = true := fun g => hgood.2.2.2.1 ((orB_P R2.2.2.2.2.2.2 R2.2.2.2.2.2.1 hp).mpr g)
                  refine pw_aload_n h 3 d_X8_clause_133 rfl ?_
                  refine pw_callV (As := []) h d_X8_clause_134 mf_X8_next mi_X8_next ml_RX8_170 ⟨by decide, by decide, by decide⟩ (by assumption) rfl rfl (Nat.le_of_ble_eq_true rfl) trivial (c_X8_next hM0 R3.1 R3.2.1 hT2 heT) ?_
                  intro ret4 sh4 I4 L4 R4 hp4
                  obtain ⟨e0, e1, eI, eL, eR⟩ := hp4
                  subst e0
                  have e1 := e1.symm
                  have eR := eR.symm
                  have eL := eL.symm
                  subst e1
                  subst eR
                  subst eL
                  refine ⟨rfl, ?_⟩
                  have f4 : frN m I3 I4 := by rw [eI]; exact frN_u (Or.inl rfl)
                  have R4 : RdM I4 m T (skB (I (m + 7)) e T) s0 D := RdM_N R3 f4 (by rw [eI, x3]; exact u2_s) (by rw [eI, u2_n2 (by decide)]; exact R3.2.2.1) (skT heT)
                  have fN4 : frN m I I4 := frN_t fN3 f4
                  clear eI
                  refine pw_bipush (x := 61) h d_X8_clause_137 (by decide) ?_
                  refine pw_icmp_ne 146 h d_X8_clause_139 (by decide) (fun c_139 => ?_) (fun c_139 => ?_)
                  · skip
                    have hne : ¬ nxt (I (m + 7)) (skB (I (m + 7)) e T) T = 61 := by rw [x3] at c_139; exact fun q => c_139 ((nx0_c (by decide) (by decide)).mpr q)
                    refine pw_iconst (x := 0) h d_X8_clause_146 (by decide) ?_
                    refine pw_nmI (fun v4_147 e4_147 => ?_)
                    refine pw_istore (lv' := [(4, .int v4_147), (3, .int v3_125), (2, .int v2_37), (1, .int v1_4), (0, .ref m)]) h d_X8_clause_147 _ hml (by decide) rfl ?_
                    refine pw_aload_n h 4 d_X8_clause_149 rfl ?_
                    refine pw_aload_n h 4 d_X8_clause_150 rfl ?_
                    refine pw_getI 8 h d_X8_clause_151 fd_RX8_166 (by assumption) rfl ?_
                    refine pw_if_ne 168 h d_X8_clause_154 (by decide) (fun c_154 => ?_) (fun c_154 => ?_)
                    · exact absurd R4.2.2.1 c_154
                    · skip
                      refine pw_iload_n h 3 d_X8_clause_157 rfl ?_
                      refine pw_bipush (x := 119) h d_X8_clause_158 (by decide) ?_
                      refine pw_icmp_ne 172 h d_X8_clause_160 (by decide) (fun c_160 => ?_) (fun c_160 => ?_)
                      · skip
                        refine pw_iconst (x := 0) h d_X8_clause_172 (by decide) ?_
                        refine pw_putI 8 h d_X8_clause_173 fd_RX8_166 (by assumption) rfl rfl rfl (by first | exact Or.inl rfl | exact Or.inr rfl | rfl | decide) ?_
                        refine pw_aload_n h 4 d_X8_clause_176 rfl ?_
                        refine pw_dupR h d_X8_clause_177 ?_
                        refine pw_getI 8 h d_X8_clause_178 fd_RX8_163 (by assumption) rfl ?_
                        refine pw_iload h 0 d_X8_clause_181 rfl ?_
                        refine pw_if_eq 190 h d_X8_clause_183 (by decide) (fun c_183 => ?_) (fun c_183 => ?_)
                        · skip
                          refine pw_iconst (x := 0) h d_X8_clause_190 (by decide) ?_
                          refine pw_iadd h d_X8_clause_191 ?_
                          refine pw_putI 8 h d_X8_clause_192 fd_RX8_163 (by assumption) rfl rfl rfl rfl ?_
                          obtain ⟨I5, eI5⟩ : ∃ I5, I5 = setW m I4 0 0 := ⟨_, rfl⟩
                          refine pw_mem (I' := I5) eI5.symm rfl rfl ?_
                          have fN5 : frN m I I5 := by rw [eI5]; exact frN_t fN4 setW_fr
                          have R5 : RdM I5 m T (skB (I (m + 7)) e T) s0 D := by rw [eI5]; exact RdM_N R4 setW_fr (setW_0 R4.2.1) setW_w (skT heT)
                          have D5 : DrM I5 m s0 D := by rw [eI5]; exact DrM_N R4.2.2.2.2.2.2 setW_fr
                          refine pw_iload_n h 3 d_X8_clause_195 rfl ?_
                          refine pw_bipush (x := 119) h d_X8_clause_196 (by decide) ?_
                          refine pw_icmp_ne 235 h d_X8_clause_198 (by decide) (fun c_198 => ?_) (fun c_198 => ?_)
                          · skip
                            refine pw_iload h 0 d_X8_clause_235 rfl ?_
                            refine pw_if_eq 253 h d_X8_clause_237 (by decide) (fun c_237 => ?_) (fun c_237 => ?_)
                            · skip
                              refine pw_iconst (x := 0) h d_X8_clause_253 (by decide) ?_
                              refine pw_nmI (fun v5_254 e5_254 => ?_)
                              refine pw_istore (lv' := [(5, .int v5_254), (4, .int v4_147), (3, .int v3_125), (2, .int v2_37), (1, .int v1_4), (0, .ref m)]) h d_X8_clause_254 _ hml (by decide) rfl ?_
                              refine pw_aload_n h 5 d_X8_clause_256 rfl ?_
                              refine pw_dupR h d_X8_clause_257 ?_
                              refine pw_getI 8 h d_X8_clause_258 fd_RX8_163 (by assumption) rfl ?_
                              refine pw_iload h 0 d_X8_clause_261 rfl ?_
                              refine pw_if_eq 270 h d_X8_clause_263 (by decide) (fun c_263 => ?_) (fun c_263 => ?_)
                              · skip
                                refine pw_iconst (x := 0) h d_X8_clause_270 (by decide) ?_
                                refine pw_iadd h d_X8_clause_271 ?_
                                refine pw_putI 8 h d_X8_clause_272 fd_RX8_163 (by assumption) rfl rfl rfl rfl ?_
                                obtain ⟨I7, eI7⟩ : ∃ I7, I7 = addA m I5 0 := ⟨_, rfl⟩
                                refine pw_mem (I' := I7) eI7.symm rfl rfl ?_
                                have fN7 : frN m I I7 := by rw [eI7]; exact frN_t fN5 addA_fr
                                have R7 : RdM I7 m T (skB (I (m + 7)) e T) s0 D := by rw [eI7]; exact RdM_N R5 addA_fr (addA_0 R5.2.1) (addA_w.trans R5.2.2.1) (skT heT)
                                have hx7 : px_ix (I7 m 12) 6 D.1.length := k_ix R7.2.2.2.2.2.2.1 h6 (by decide)
                                refine pw_iload h 1 d_X8_clause_275 rfl ?_
                                refine pw_if_eq 290 h d_X8_clause_277 (by decide) (fun c_277 => ?_) (fun c_277 => ?_)
                                · skip
                                  refine pw_iconst (x := 0) h d_X8_clause_290 (by decide) ?_
                                  refine pw_nmI (fun v6_291 e6_291 => ?_)
                                  refine pw_istore (lv' := [(6, .int v6_291), (5, .int v5_254), (4, .int v4_147), (3, .int v3_125), (2, .int v2_37), (1, .int v1_4), (0, .ref m)]) h d_X8_clause_291 _ hml (by decide) rfl ?_
                                  refine pw_aload_n h 6 d_X8_clause_293 rfl ?_
                                  refine pw_getR (j := (m + 8)) 8 h d_X8_clause_294 fd_RX8_35 (by assumption) rfl (by assumption) ?_
                                  refine pw_aload_n h 6 d_X8_clause_297 rfl ?_
                                  refine pw_getI 8 h d_X8_clause_298 fd_RX8_181 (by assumption) rfl ?_
                                  refine pw_iload_n h 3 d_X8_clause_301 rfl ?_
                                  refine pw_iast h d_X8_clause_302 (by assumption) (by assumption) ?_
                                  refine pw_aload_n h 6 d_X8_clause_303 rfl ?_
                                  refine pw_getR (j := (m + 9)) 8 h d_X8_clause_304 fd_RX8_38 (by assumption) rfl (by assumption) ?_
                                  refine pw_aload_n h 6 d_X8_clause_307 rfl ?_
                                  refine pw_getI 8 h d_X8_clause_308 fd_RX8_181 (by assumption) rfl ?_
                                  refine pw_iload h 1 d_X8_clause_311 rfl ?_
                                  refine pw_if_eq 322 h d_X8_clause_313 (by decide) (fun c_313 => ?_) (fun c_313 => ?_)
                                  · skip
                                    refine pw_iload h 0 d_X8_clause_322 rfl ?_
                                    refine pw_iast h d_X8_clause_324 (by assumption) (by rw [u2_n1 (by omega)]; assumption) ?_
                                    refine pw_aload_n h 6 d_X8_clause_325 rfl ?_
                                    refine pw_dupR h d_X8_clause_326 ?_
                                    refine pw_getI 8 h d_X8_clause_327 fd_RX8_181 (by assumption) rfl ?_
                                    refine pw_iconst (x := 1) h d_X8_clause_330 (by decide) ?_
                                    refine pw_iadd h d_X8_clause_331 ?_
                                    refine pw_putI 8 h d_X8_clause_332 fd_RX8_181 (by assumption) rfl rfl rfl rfl ?_
                                    refine pw_vret h hr d_X8_clause_335 (by decide) (by decide) ?_
                                    rw [e3_125]
                                    exact cl_bear (y := v6_291) (z := 0) (frM_N fN7) R7 h6 hp hno (by rw [e6_291]; rfl) (by decide) (by unfold pCl; rw [if_pos hc, if_pos h6, pB_ok hgood.2.1 (hgood.2.2.1 ▸ hno), ← hgood.2.2.1, ← he]; exact pB2_0 hne)
                                  · exact absurd e5_254 c_313
                                · exact absurd e4_147 c_277
                              · exact absurd e5_254 c_263
                            · exact absurd e4_147 c_237
                          · exact absurd (ec.symm.trans c_198) (by decide)
                        · exact absurd e4_147 c_183
                      · exact absurd (ec.symm.trans c_160) (by decide)
                  · skip
                    have heq : nxt (I (m + 7)) (skB (I (m + 7)) e T) T = 61 := by rw [x3] at c_139; exact (nx0_c (by decide) (by decide)).mp c_139
                    have hlt4 := nxt_lt heq (by decide)
                    have hle4 : skB (I (m + 7)) e T + 1 ≤ T := hlt4
                    refine pw_iconst (x := 1) h d_X8_clause_142 (by decide) ?_
                    refine pw_goto 147 h d_X8_clause_143 (by decide) ?_
                    refine pw_nmI (fun v4_147 e4_147 => ?_)
                    refine pw_istore (lv' := [(4, .int v4_147), (3, .int v3_125), (2, .int v2_37), (1, .int v1_4), (0, .ref m)]) h d_X8_clause_147 _ hml (by decide) rfl ?_
                    refine pw_aload_n h 4 d_X8_clause_149 rfl ?_
                    refine pw_aload_n h 4 d_X8_clause_150 rfl ?_
                    refine pw_getI 8 h d_X8_clause_151 fd_RX8_166 (by assumption) rfl ?_
                    refine pw_if_ne 168 h d_X8_clause_154 (by decide) (fun c_154 => ?_) (fun c_154 => ?_)
                    · exact absurd R4.2.2.1 c_154
                    · skip
                      refine pw_iload_n h 3 d_X8_clause_157 rfl ?_
                      refine pw_bipush (x := 119) h d_X8_clause_158 (by decide) ?_
                      refine pw_icmp_ne 172 h d_X8_clause_160 (by decide) (fun c_160 => ?_) (fun c_160 => ?_)
                      · skip
                        refine pw_iconst (x := 0) h d_X8_clause_172 (by decide) ?_
                        refine pw_putI 8 h d_X8_clause_173 fd_RX8_166 (by assumption) rfl rfl rfl (by first | exact Or.inl rfl | exact Or.inr rfl | rfl | decide) ?_
                        refine pw_aload_n h 4 d_X8_clause_176 rfl ?_
                        refine pw_dupR h d_X8_clause_177 ?_
                        refine pw_getI 8 h d_X8_clause_178 fd_RX8_163 (by assumption) rfl ?_
                        refine pw_iload h 0 d_X8_clause_181 rfl ?_
                        refine pw_if_eq 190 h d_X8_clause_183 (by decide) (fun c_183 => ?_) (fun c_183 => ?_)
                        · exact absurd (e4_147.symm.trans c_183) (by decide)
                        · skip
                          refine pw_iconst (x := 1) h d_X8_clause_186 (by decide) ?_
                          refine pw_goto 191 h d_X8_clause_187 (by decide) ?_
                          refine pw_iadd h d_X8_clause_191 ?_
                          refine pw_putI 8 h d_X8_clause_192 fd_RX8_163 (by assumption) rfl rfl rfl rfl ?_
                          obtain ⟨I5, eI5⟩ : ∃ I5, I5 = setW m I4 0 1 := ⟨_, rfl⟩
                          refine pw_mem (I' := I5) eI5.symm rfl rfl ?_
                          have fN5 : frN m I I5 := by rw [eI5]; exact frN_t fN4 setW_fr
                          have R5 : RdM I5 m T (skB (I (m + 7)) e T + 1) s0 D := by rw [eI5]; exact RdM_N R4 setW_fr (setW_1 R4.2.1) setW_w hlt4
                          have x5 : I5 (m + 7) = I (m + 7) := frN_f fN5 (by decide)
                          refine pw_iload_n h 3 d_X8_clause_195 rfl ?_
                          refine pw_bipush (x := 119) h d_X8_clause_196 (by decide) ?_
                          refine pw_icmp_ne 235 h d_X8_clause_198 (by decide) (fun c_198 => ?_) (fun c_198 => ?_)
                          · skip
                            refine pw_iload h 0 d_X8_clause_235 rfl ?_
                            refine pw_if_eq 253 h d_X8_clause_237 (by decide) (fun c_237 => ?_) (fun c_237 => ?_)
                            · exact absurd (e4_147.symm.trans c_237) (by decide)
                            · skip
                              refine pw_aload_n h 4 d_X8_clause_240 rfl ?_
                              refine pw_callV (As := []) h d_X8_clause_241 mf_X8_next mi_X8_next ml_RX8_170 ⟨by decide, by decide, by decide⟩ (by assumption) rfl rfl (Nat.le_of_ble_eq_true rfl) trivial (c_X8_next hM0 R5.1 R5.2.1 hT2 R5.2.2.2.1) ?_
                              intro ret6 sh6 I6 L6 R6 hp6
                              obtain ⟨e0, e1, eI, eL, eR⟩ := hp6
                              subst e0
                              have e1 := e1.symm
                              have eR := eR.symm
                              have eL := eL.symm
                              subst e1
                              subst eR
                              subst eL
                              refine ⟨rfl, ?_⟩
                              have f6 : frN m I5 I6 := by rw [eI]; exact frN_u (Or.inl rfl)
                              have R6 : RdM I6 m T (skB (I (m + 7)) (skB (I (m + 7)) e T + 1) T) s0 D := RdM_N R5 f6 (by rw [eI, x5]; exact u2_s) (by rw [eI, u2_n2 (by decide)]; exact R5.2.2.1) (skT hlt4)
                              have fN6 : frN m I I6 := frN_t fN5 f6
                              clear eI
                              refine pw_bipush (x := 45) h d_X8_clause_244 (by decide) ?_
                              refine pw_icmp_ne 253 h d_X8_clause_246 (by decide) (fun c_246 => ?_) (fun c_246 => ?_)
                              · skip
                                have hq6 : ¬ nxt (I (m + 7)) (skB (I (m + 7)) (skB (I (m + 7)) e T + 1) T) T = 45 := by rw [x5] at c_246; exact fun q => c_246 ((nx0_c (by decide) (by decide)).mpr q)
                                refine pw_iconst (x := 0) h d_X8_clause_253 (by decide) ?_
                                refine pw_nmI (fun v5_254 e5_254 => ?_)
                                refine pw_istore (lv' := [(5, .int v5_254), (4, .int v4_147), (3, .int v3_125), (2, .int v2_37), (1, .int v1_4), (0, .ref m)]) h d_X8_clause_254 _ hml (by decide) rfl ?_
                                refine pw_aload_n h 5 d_X8_clause_256 rfl ?_
                                refine pw_dupR h d_X8_clause_257 ?_
                                refine pw_getI 8 h d_X8_clause_258 fd_RX8_163 (by assumption) rfl ?_
                                refine pw_iload h 0 d_X8_clause_261 rfl ?_
                                refine pw_if_eq 270 h d_X8_clause_263 (by decide) (fun c_263 => ?_) (fun c_263 => ?_)
                                · skip
                                  refine pw_iconst (x := 0) h d_X8_clause_270 (by decide) ?_
                                  refine pw_iadd h d_X8_clause_271 ?_
                                  refine pw_putI 8 h d_X8_clause_272 fd_RX8_163 (by assumption) rfl rfl rfl rfl ?_
                                  obtain ⟨I7, eI7⟩ : ∃ I7, I7 = addA m I6 0 := ⟨_, rfl⟩
                                  refine pw_mem (I' := I7) eI7.symm rfl rfl ?_
                                  have fN7 : frN m I I7 := by rw [eI7]; exact frN_t fN6 addA_fr
                                  have R7 : RdM I7 m T (skB (I (m + 7)) (skB (I (m + 7)) e T + 1) T) s0 D := by rw [eI7]; exact RdM_N R6 addA_fr (addA_0 R6.2.1) (addA_w.trans R6.2.2.1) (skT hlt4)
                                  have x7 : I7 (m + 7) = I (m + 7) := frN_f fN7 (by decide)
                                  refine pw_iload h 1 d_X8_clause_275 rfl ?_
                                  refine pw_if_eq 290 h d_X8_clause_277 (by decide) (fun c_277 => ?_) (fun c_277 => ?_)
                                  · exact absurd (e4_147.symm.trans c_277) (by decide)
                                  · skip
                                    refine pw_aload_n h 5 d_X8_clause_280 rfl ?_
                                    refine pw_iconst (x := 0) h d_X8_clause_281 (by decide) ?_
                                    refine pw_bipush (x := 50) h d_X8_clause_282 (by decide) ?_
                                    refine pw_callV (As := [.int _, .int _]) h d_X8_clause_284 mf_X8_number mi_X8_number ml_RX8_178 ⟨by decide, by decide, by decide⟩ (by assumption) rfl rfl (Nat.le_of_ble_eq_true rfl) trivial (c_X8_number hM0 R7.1 R7.2.1 hT2 R7.2.2.2.1 (wr := false) R7.2.2.1 (lo := 0) (hi := 50) rfl rfl (by decide)) ?_
                                    intro ret8 sh8 I8 L8 R8 hp8
                                    obtain ⟨e1, eR, eL, f8, x, ex, hx8⟩ := hp8
                                    have e1 := e1.symm
                                    have eR := eR.symm
                                    have eL := eL.symm
                                    subst e1
                                    subst eR
                                    subst eL
                                    subst ex
                                    rw [x7] at hx8
                                    have fN8 : frN m I I8 := frN_t fN7 f8
                                    have D8 : DrM I8 m s0 D := DrM_N R7.2.2.2.2.2.2 f8
                                    refine ⟨rfl, ?_⟩
                                    refine pw_goto 291 h d_X8_clause_287 (by decide) ?_
                                    refine pw_nmI (fun v6_291 e6_291 => ?_)
                                    refine pw_istore (lv' := [(6, .int v6_291), (5, .int v5_254), (4, .int v4_147), (3, .int v3_125), (2, .int v2_37), (1, .int v1_4), (0, .ref m)]) h d_X8_clause_291 _ hml (by decide) rfl ?_
                                    have hx8i : px_ix (I8 m 12) 6 D.1.length := k_ix D8.1 h6 (by decide)
                                    refine pw_aload_n h 6 d_X8_clause_293 rfl ?_
                                    refine pw_getR (j := (m + 8)) 8 h d_X8_clause_294 fd_RX8_35 (by assumption) rfl (by assumption) ?_
                                    refine pw_aload_n h 6 d_X8_clause_297 rfl ?_
                                    refine pw_getI 8 h d_X8_clause_298 fd_RX8_181 (by assumption) rfl ?_
                                    refine pw_iload_n h 3 d_X8_clause_301 rfl ?_
                                    refine pw_iast h d_X8_clause_302 (by assumption) (by assumption) ?_
                                    refine pw_aload_n h 6 d_X8_clause_303 rfl ?_
                                    refine pw_getR (j := (m + 9)) 8 h d_X8_clause_304 fd_RX8_38 (by assumption) rfl (by assumption) ?_
                                    refine pw_aload_n h 6 d_X8_clause_307 rfl ?_
                                    refine pw_getI 8 h d_X8_clause_308 fd_RX8_181 (by assumption) rfl ?_
                                    refine pw_iload h 1 d_X8_clause_311 rfl ?_
                                    refine pw_if_eq 322 h d_X8_clause_313 (by decide) (fun c_313 => ?_) (fun c_313 => ?_)
                                    · skip
                                      refine pw_iload h 0 d_X8_clause_322 rfl ?_
                                      refine pw_iast h d_X8_clause_324 (by assumption) (by rw [u2_n1 (by omega)]; assumption) ?_
                                      refine pw_aload_n h 6 d_X8_clause_325 rfl ?_
                                      refine pw_dupR h d_X8_clause_326 ?_
                                      refine pw_getI 8 h d_X8_clause_327 fd_RX8_181 (by assumption) rfl ?_
                                      refine pw_iconst (x := 1) h d_X8_clause_330 (by decide) ?_
                                      refine pw_iadd h d_X8_clause_331 ?_
                                      refine pw_putI 8 h d_X8_clause_332 fd_RX8_181 (by assumption) rfl rfl rfl rfl ?_
                                      refine pw_vret h hr d_X8_clause_335 (by decide) (by decide) ?_
                                      rw [e3_125]
                                      rw [skB_idem hle4] at hx8
                                      rcases hx8 with ⟨w8, _, ho, hv, a8⟩ | ⟨w8, _, hb, _⟩
                                      · exact cl_bear (z := ((numZ (I (m + 7)) T (skB (I (m + 7)) (skB (I (m + 7)) e T + 1) T)).2 : Int)) (frM_N fN8) (RdM_N R7 f8 a8 w8 (numZ_le (skT hlt4)).2) h6 hp hno (by rw [e6_291, hv]; exact nI_toInt (by have := ((okZ_i hle4).mp ho).2.2; omega)) (by have := ((okZ_i hle4).mp ho).2.2; omega) (by unfold pCl; rw [if_pos hc, if_pos h6, pB_ok hgood.2.1 (hgood.2.2.1 ▸ hno), ← hgood.2.2.1, ← he]; exact pB2_p heq hq6 ((okZ_i hle4).mp ho))
                                      · exact cl_fail (frM_t (frM_N fN8) putM_fr) ((putM_w (by decide)).trans w8) ((putM_w (by decide)).trans (hb rfl).2) (by unfold pCl; rw [if_pos hc, if_pos h6, pB_ok hgood.2.1 (hgood.2.2.1 ▸ hno), ← hgood.2.2.1, ← he]; exact pB2_pn heq hq6 (fun q => (hb rfl).1 ((okZ_i hle4).mpr q)))
                                    · exact absurd e5_254 c_313
                                · exact absurd e5_254 c_263
                              · skip
                                have hq6 : nxt (I (m + 7)) (skB (I (m + 7)) (skB (I (m + 7)) e T + 1) T) T = 45 := by rw [x5] at c_246; exact (nx0_c (by decide) (by decide)).mp c_246
                                have hlt6 := nxt_lt hq6 (by decide)
                                refine pw_iconst (x := 1) h d_X8_clause_249 (by decide) ?_
                                refine pw_goto 254 h d_X8_clause_250 (by decide) ?_
                                refine pw_nmI (fun v5_254 e5_254 => ?_)
                                refine pw_istore (lv' := [(5, .int v5_254), (4, .int v4_147), (3, .int v3_125), (2, .int v2_37), (1, .int v1_4), (0, .ref m)]) h d_X8_clause_254 _ hml (by decide) rfl ?_
                                refine pw_aload_n h 5 d_X8_clause_256 rfl ?_
                                refine pw_dupR h d_X8_clause_257 ?_
                                refine pw_getI 8 h d_X8_clause_258 fd_RX8_163 (by assumption) rfl ?_
                                refine pw_iload h 0 d_X8_clause_261 rfl ?_
                                refine pw_if_eq 270 h d_X8_clause_263 (by decide) (fun c_263 => ?_) (fun c_263 => ?_)
                                · exact absurd (e5_254.symm.trans c_263) (by decide)
                                · skip
                                  refine pw_iconst (x := 1) h d_X8_clause_266 (by decide) ?_
                                  refine pw_goto 271 h d_X8_clause_267 (by decide) ?_
                                  refine pw_iadd h d_X8_clause_271 ?_
                                  refine pw_putI 8 h d_X8_clause_272 fd_RX8_163 (by assumption) rfl rfl rfl rfl ?_
                                  obtain ⟨I7, eI7⟩ : ∃ I7, I7 = addA m I6 1 := ⟨_, rfl⟩
                                  refine pw_mem (I' := I7) eI7.symm rfl rfl ?_
                                  have fN7 : frN m I I7 := by rw [eI7]; exact frN_t fN6 addA_fr
                                  have R7 : RdM I7 m T (skB (I (m + 7)) (skB (I (m + 7)) e T + 1) T + 1) s0 D := by rw [eI7]; exact RdM_N R6 addA_fr (addA_1 R6.2.1) (addA_w.trans R6.2.2.1) hlt6
                                  have x7 : I7 (m + 7) = I (m + 7) := frN_f fN7 (by decide)
                                  refine pw_iload h 1 d_X8_clause_275 rfl ?_
                                  refine pw_if_eq 290 h d_X8_clause_277 (by decide) (fun c_277 => ?_) (fun c_277 => ?_)
                                  · exact absurd (e4_147.symm.trans c_277) (by decide)
                                  · skip
                                    refine pw_aload_n h 5 d_X8_clause_280 rfl ?_
                                    refine pw_iconst (x := 0) h d_X8_clause_281 (by decide) ?_
                                    refine pw_bipush (x := 50) h d_X8_clause_282 (by decide) ?_
                                    refine pw_callV (As := [.int _, .int _]) h d_X8_clause_284 mf_X8_number mi_X8_number ml_RX8_178 ⟨by decide, by decide, by decide⟩ (by assumption) rfl rfl (Nat.le_of_ble_eq_true rfl) trivial (c_X8_number hM0 R7.1 R7.2.1 hT2 R7.2.2.2.1 (wr := false) R7.2.2.1 (lo := 0) (hi := 50) rfl rfl (by decide)) ?_
                                    intro ret8 sh8 I8 L8 R8 hp8
                                    obtain ⟨e1, eR, eL, f8, x, ex, hx8⟩ := hp8
                                    have e1 := e1.symm
                                    have eR := eR.symm
                                    have eL := eL.symm
                                    subst e1
                                    subst eR
                                    subst eL
                                    subst ex
                                    rw [x7] at hx8
                                    have fN8 : frN m I I8 := frN_t fN7 f8
                                    have D8 : DrM I8 m s0 D := DrM_N R7.2.2.2.2.2.2 f8
                                    refine ⟨rfl, ?_⟩
                                    refine pw_goto 291 h d_X8_clause_287 (by decide) ?_
                                    refine pw_nmI (fun v6_291 e6_291 => ?_)
                                    refine pw_istore (lv' := [(6, .int v6_291), (5, .int v5_254), (4, .int v4_147), (3, .int v3_125), (2, .int v2_37), (1, .int v1_4), (0, .ref m)]) h d_X8_clause_291 _ hml (by decide) rfl ?_
                                    have hx8i : px_ix (I8 m 12) 6 D.1.length := k_ix D8.1 h6 (by decide)
                                    refine pw_aload_n h 6 d_X8_clause_293 rfl ?_
                                    refine pw_getR (j := (m + 8)) 8 h d_X8_clause_294 fd_RX8_35 (by assumption) rfl (by assumption) ?_
                                    refine pw_aload_n h 6 d_X8_clause_297 rfl ?_
                                    refine pw_getI 8 h d_X8_clause_298 fd_RX8_181 (by assumption) rfl ?_
                                    refine pw_iload_n h 3 d_X8_clause_301 rfl ?_
                                    refine pw_iast h d_X8_clause_302 (by assumption) (by assumption) ?_
                                    refine pw_aload_n h 6 d_X8_clause_303 rfl ?_
                                    refine pw_getR (j := (m + 9)) 8 h d_X8_clause_304 fd_RX8_38 (by assumption) rfl (by assumption) ?_
                                    refine pw_aload_n h 6 d_X8_clause_307 rfl ?_
                                    refine pw_getI 8 h d_X8_clause_308 fd_RX8_181 (by assumption) rfl ?_
                                    refine pw_iload h 1 d_X8_clause_311 rfl ?_
                                    refine pw_if_eq 322 h d_X8_clause_313 (by decide) (fun c_313 => ?_) (fun c_313 => ?_)
                                    · exact absurd (e5_254.symm.trans c_313) (by decide)
                                    · skip
                                      refine pw_iload h 0 d_X8_clause_316 rfl ?_
                                      refine pw_ineg h d_X8_clause_318 ?_
                                      refine pw_goto 324 h d_X8_clause_319 (by decide) ?_
                                      refine pw_iast h d_X8_clause_324 (by assumption) (by rw [u2_n1 (by omega)]; assumption) ?_
                                      refine pw_aload_n h 6 d_X8_clause_325 rfl ?_
                                      refine pw_dupR h d_X8_clause_326 ?_
                                      refine pw_getI 8 h d_X8_clause_327 fd_RX8_181 (by assumption) rfl ?_
                                      refine pw_iconst (x := 1) h d_X8_clause_330 (by decide) ?_
                                      refine pw_iadd h d_X8_clause_331 ?_
                                      refine pw_putI 8 h d_X8_clause_332 fd_RX8_181 (by assumption) rfl rfl rfl rfl ?_
                                      refine pw_vret h hr d_X8_clause_335 (by decide) (by decide) ?_
                                      rw [e3_125]
                                      rcases hx8 with ⟨w8, _, ho, hv, a8⟩ | ⟨w8, _, hb, _⟩
                                      · exact cl_bear (z := -((numZ (I (m + 7)) T (skB (I (m + 7)) (skB (I (m + 7)) (skB (I (m + 7)) e T + 1) T + 1) T)).2 : Int)) (frM_N fN8) (RdM_N R7 f8 a8 w8 (numZ_le (skT hlt6)).2) h6 hp hno (by rw [e6_291, hv]; exact nI_negI (by have := ho.2.2; omega)) (by have := ho.2.2; omega) (by unfold pCl; rw [if_pos hc, if_pos h6, pB_ok hgood.2.1 (hgood.2.2.1 ▸ hno), ← hgood.2.2.1, ← he]; exact pB2_m heq hq6 ho)
                                      · exact cl_fail (frM_t (frM_N fN8) putM_fr) ((putM_w (by decide)).trans w8) ((putM_w (by decide)).trans (hb rfl).2) (by unfold pCl; rw [if_pos hc, if_pos h6, pB_ok hgood.2.1 (hgood.2.2.1 ▸ hno), ← hgood.2.2.1, ← he]; exact pB2_mn heq hq6 (hb rfl).1)
                          · exact absurd (ec.symm.trans c_198) (by decide)
                      · exact absurd (ec.symm.trans c_160) (by decide)
            · exact absurd (ec.symm.trans c_79) (by decide)
          · exact absurd u2_s c_62
        · exact absurd (e2_37.symm.trans c_47) (by decide)
    · exact absurd (k_lt2r R1.2.2.2.2.2.2.1 h6) c_17
