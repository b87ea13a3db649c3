set_option maxHeartbeats 4000000 in
set_option maxRecDepth 100000 in
theorem c_X8_bends {sh : Sh} {I : IM} {L : LM} {R : RM} {m n : Nat} {pl : Nat → Nat} {hg w : Nat → Rat} {F : Rat} (hM : ModF sh R m) (hP : isP pl n) (hS : SolM I m n pl hg w F) : PMet M_X8_bends [.ref m] sh I L R (bndP sh I L R m n pl hg w F) := by
  refine PMet.of mf_X8_bends (Nat.le_of_ble_eq_true rfl) ?_
  intro X h hr hml
  have hml : (xc X).maxLocals = 15 := hml
  have h : PXok X RX8 cX8_bends 2 0 0 := h
  have hr : PXr X none "bends" _ 0 0 := hr
  have hM0 := hM
  obtain ⟨f0, f1, f2, f3, f4, f5, f6, f7, f8, f9, f10, f11, f12, f13, f14, f15, f16, f17, f18, f19, f20, f21, f22, f23, f24, f25, f26, f27, g1, g2, g3, g4, g5, g6, g7, g8, g9, g10, g11, g12, g13, g14, g15, g16, g17, g18, g19, g20, g21, g22, g23, g24, g25, g26, g27⟩ := hM
  have h5 := hP.1
  show PW X 0 [(0, .ref m)] [] sh I L R 0 0
  refine pw_aload_n h 0 d_X8_bends_0 rfl ?_
  refine pw_getI 8 h d_X8_bends_1 fd_RX8_215 (by assumption) rfl ?_
  refine pw_iconst (x := 1) h d_X8_bends_4 (by decide) ?_
  refine pw_isub h d_X8_bends_5 ?_
  refine pw_nmI (fun v1_6 e1_6 => ?_)
  refine pw_istore_n (lv' := [(1, .int v1_6), (0, .ref m)]) h d_X8_bends_6 rfl _ hml (by decide) rfl ?_
  have el : v1_6 = nI (n + 1) := by rw [e1_6, hS.1]; exact k_dn1 (i := n + 2) rfl (by omega)
  have eln : v1_6 - 1 = nI n := k_dn1 el (by omega)
  refine pw_aload_n h 1 d_X8_bends_7 rfl ?_
  refine pw_iconst (x := 1) h d_X8_bends_8 (by decide) ?_
  refine pw_callV (As := [.int _]) h d_X8_bends_9 mf_X8_hangs mi_X8_hangs ml_RX8_218 ⟨by decide, by decide, by decide⟩ (by assumption) rfl rfl (Nat.le_of_ble_eq_true rfl) trivial (c_X8_hangs1 hM0 hS.1 (by omega) (by omega)) ?_
  refine PKk.ret ?_
  refine pw_nmL (fun v2_12 e2_12 => ?_)
  refine pw_lstore_n (lv' := [(2, .long v2_12), (1, .int v1_6), (0, .ref m)]) h d_X8_bends_12 rfl _ hml (by decide) rfl ?_
  have hfi : RI v2_12 (hanL (xR' pl) w) := by rw [e2_12]; exact sm_first hP hS
  refine pw_aload_n h 2 d_X8_bends_13 rfl ?_
  refine pw_iconst (x := 0) h d_X8_bends_14 (by decide) ?_
  refine pw_callV (As := [.int _]) h d_X8_bends_15 mf_X8_hangs mi_X8_hangs ml_RX8_218 ⟨by decide, by decide, by decide⟩ (by assumption) rfl rfl (Nat.le_of_ble_eq_true rfl) trivial (c_X8_hangs0 hM0 hS.1 (by omega) (by omega)) ?_
  refine PKk.ret ?_
  refine pw_nmL (fun v4_18 e4_18 => ?_)
  refine pw_lstore (lv' := [(4, .long v4_18), (2, .long v2_12), (1, .int v1_6), (0, .ref m)]) h d_X8_bends_18 _ hml (by decide) rfl ?_
  have hen : RI v4_18 (hanR (xR' pl) w n) := by rw [e4_18]; exact sm_end hP hS
  refine pw_aload_n h 3 d_X8_bends_20 rfl ?_
  refine pw_getR (j := (m + 18)) 8 h d_X8_bends_21 fd_RX8_70 (by assumption) rfl (by assumption) ?_
  refine pw_iconst (x := 0) h d_X8_bends_24 (by decide) ?_
  refine pw_lconst (x := 1) h d_X8_bends_25 (by decide) ?_
  refine pw_last (j := 0) h d_X8_bends_26 (by assumption) (px_ix_nI (j := 0) (by decide) (by decide)) ?_
  have hh1 : hdF m (u2 L (m + 18) 0 1) (spR pl n) 1 := fun k hk => by rw [show k = 0 by omega, u2_s]; exact RI_1
  have hr1 : rtF m (u2 L (m + 18) 0 1) (rhoQ (xR' pl) (spR pl n) hg w F n) 1 := fun k hk => absurd hk (by omega)
  refine pw_iconst (x := 1) h d_X8_bends_27 (by decide) ?_
  refine pw_nmI (fun v6_28 e6_28 => ?_)
  refine pw_istore (lv' := [(6, .int v6_28), (4, .long v4_18), (2, .long v2_12), (1, .int v1_6), (0, .ref m)]) h d_X8_bends_28 _ hml (by decide) rfl ?_
  have cut_30 : ∀ (N i : Nat) (v : Int32) (L2 : LM), n + 1 < i + N → 1 ≤ i → i ≤ n + 1 → v = nI i → frBn m L L2 → hdF m L2 (spR pl n) i → rtF m L2 (rhoQ (xR' pl) (spR pl n) hg w F n) i → PW X 30 [(0, .ref m), (1, .int v1_6), (2, .long v2_12), (4, .long v4_18), (6, .int v)] [] sh I L2 R 0 0 := by
    intro N
    induction N with
    | zero => intros; omega
    | succ N ih =>
      intro i v L2 hN hi1 hin1 ev fr2 hh hrt
      refine pw_iload h 4 d_X8_bends_30 rfl ?_
      refine pw_iload_n h 1 d_X8_bends_32 rfl ?_
      refine pw_icmp_ge 165 h d_X8_bends_33 (by decide) (fun c_33 => ?_) (fun c_33 => ?_)
      · skip
        have hge : n + 1 ≤ i := k_ge ev el (by omega) (by omega) c_33
        have e9 : i = n + 1 := by omega
        subst e9
        have hxl9 : px_ix v1_6 9 (n + 1) := k_ix el (by omega) (by decide)
        have hxl92 : px_ix (v1_6 + 1) 9 (n + 2) := k_ix (k_up rfl el) (by omega) (by decide)
        refine pw_aload_n h 0 d_X8_bends_165 rfl ?_
        refine pw_getR (j := (m + 19)) 8 h d_X8_bends_166 fd_RX8_73 (by assumption) rfl (by assumption) ?_
        refine pw_iload_n h 1 d_X8_bends_169 rfl ?_
        refine pw_lconst (x := 1) h d_X8_bends_170 (by decide) ?_
        refine pw_last h d_X8_bends_171 (by assumption) (by assumption) ?_
        refine pw_aload_n h 0 d_X8_bends_172 rfl ?_
        refine pw_getR (j := (m + 19)) 8 h d_X8_bends_173 fd_RX8_73 (by assumption) rfl (by assumption) ?_
        refine pw_iload_n h 1 d_X8_bends_176 rfl ?_
        refine pw_iconst (x := 1) h d_X8_bends_177 (by decide) ?_
        refine pw_iadd h d_X8_bends_178 ?_
        refine pw_lconst (x := 0) h d_X8_bends_179 (by decide) ?_
        refine pw_last h d_X8_bends_180 (by assumption) (by assumption) ?_
        refine pw_iload_n h 1 d_X8_bends_181 rfl ?_
        refine pw_iconst (x := 1) h d_X8_bends_182 (by decide) ?_
        refine pw_isub h d_X8_bends_183 ?_
        refine pw_nmI (fun v6_184 e6_184 => ?_)
        refine pw_istore (lv' := [(6, .int v6_184), (0, .ref m), (1, .int v1_6), (2, .long v2_12), (4, .long v4_18)]) h d_X8_bends_184 _ hml (by decide) rfl ?_
        have cut_186 : ∀ (N i : Nat) (v : Int32) (L3 : LM), i < N → i ≤ n → v = nI i → frBn m L L3 → hdF m L3 (spR pl n) (n + 1) → rtF m L3 (rhoQ (xR' pl) (spR pl n) hg w F n) (n + 1) → tlF m L3 (spR pl n) n i → PW X 186 [(0, .ref m), (1, .int v1_6), (2, .long v2_12), (4, .long v4_18), (6, .int v)] [] sh I L3 R 0 0 := by
          intro N
          induction N with
          | zero => intros; omega
          | succ N iht =>
            intro i v L3 hN hin ev fr3 hh hrt htl
            refine pw_iload h 4 d_X8_bends_186 rfl ?_
            refine pw_if_le 256 h d_X8_bends_188 (by decide) (fun c_188 => ?_) (fun c_188 => ?_)
            · skip
              have e0 := k_0 ev (by omega) c_188
              subst e0
              have hx8n : px_ix (v1_6 - 1) 8 n := k_ix eln (by omega) (by decide)
              have hx7l : px_ix v1_6 7 (n + 1) := k_ix el (by omega) (by decide)
              refine pw_aload_n h 0 d_X8_bends_256 rfl ?_
              refine pw_iload_n h 1 d_X8_bends_257 rfl ?_
              refine pw_if_le 272 h d_X8_bends_258 (by decide) (fun c_258 => ?_) (fun c_258 => ?_)
              · exact absurd c_258 (by rw [el]; exact nI_npos.resolve_right (by omega))
              · skip
                refine pw_aload_n h 0 d_X8_bends_261 rfl ?_
                refine pw_getR (j := (m + 18)) 8 h d_X8_bends_262 fd_RX8_70 (by assumption) rfl (by assumption) ?_
                refine pw_iload_n h 1 d_X8_bends_265 rfl ?_
                refine pw_iconst (x := 1) h d_X8_bends_266 (by decide) ?_
                refine pw_isub h d_X8_bends_267 ?_
                refine pw_lald h d_X8_bends_268 (by assumption) (by assumption) ?_
                refine pw_goto 273 h d_X8_bends_269 (by decide) ?_
                refine pw_putL 8 h d_X8_bends_273 fd_RX8_232 (by assumption) rfl rfl rfl rfl ?_
                refine pw_aload_n h 0 d_X8_bends_276 rfl ?_
                refine pw_getR (j := (m + 16)) 8 h d_X8_bends_277 fd_RX8_64 (by assumption) rfl (by assumption) ?_
                refine pw_iconst (x := 0) h d_X8_bends_280 (by decide) ?_
                refine pw_lload_n h 2 d_X8_bends_281 rfl ?_
                refine pw_ldc2 h d_X8_bends_282 ck_RX8_213 ?_
                refine pw_lmul h d_X8_bends_285 ?_
                refine pw_aload_n h 0 d_X8_bends_286 rfl ?_
                refine pw_getL 8 h d_X8_bends_287 fd_RX8_232 (by assumption) rfl ?_
                refine pw_lmul h d_X8_bends_290 ?_
                refine pw_last (j := 0) h d_X8_bends_291 (by assumption) (px_ix_nI (j := 0) (by decide) (by decide)) ?_
                refine pw_aload_n h 0 d_X8_bends_292 rfl ?_
                refine pw_getR (j := (m + 16)) 8 h d_X8_bends_293 fd_RX8_64 (by assumption) rfl (by assumption) ?_
                refine pw_iload_n h 1 d_X8_bends_296 rfl ?_
                refine pw_lload h 3 d_X8_bends_297 rfl ?_
                refine pw_ldc2 h d_X8_bends_299 ck_RX8_213 ?_
                refine pw_lmul h d_X8_bends_302 ?_
                refine pw_aload_n h 0 d_X8_bends_303 rfl ?_
                refine pw_getL 8 h d_X8_bends_304 fd_RX8_232 (by assumption) rfl ?_
                refine pw_lmul h d_X8_bends_307 ?_
                refine pw_last h d_X8_bends_308 (by assumption) (by assumption) ?_
                obtain ⟨L5, eL5⟩ : ∃ L5, L5 = u2 (u2 (u2 L3 m 29 (L3 (m + 18) n)) (m + 16) 0 (v2_12 * 27720 * L3 (m + 18) n)) (m + 16) (n + 1) (v4_18 * 27720 * L3 (m + 18) n) := ⟨_, rfl⟩
                refine pw_mem (L' := L5) rfl (by rw [eL5, u2_s, u2_n1 (by omega), u2_s]) rfl ?_
                have fr5 : frBn m L L5 := by rw [eL5]; exact frBn_u (frBn_u (frBn_u fr3 (by omega)) (by omega)) (by omega)
                have hdn := hh n (by omega)
                have hh5 : hdF m L5 (spR pl n) (n + 1) := by rw [eL5]; exact hdF_u (hdF_u (hdF_u hh (by omega)) (by omega)) (by omega)
                have hrt5 : rtF m L5 (rhoQ (xR' pl) (spR pl n) hg w F n) (n + 1) := by rw [eL5]; exact rtF_u (rtF_u (rtF_u hrt (by omega)) (by omega)) (by omega)
                have htl5 : tlF m L5 (spR pl n) n 0 := by rw [eL5]; exact tlF_u (tlF_u (tlF_u htl (by omega)) (by omega)) (by omega)
                have hdt5 : RI (L5 m 29) (cH (spR pl n) (n + 1)) := by rw [eL5, u2_n1 (by omega), u2_n1 (by omega), u2_s]; exact hdn
                have hmo5 : moF m L5 (momM pl hg w F n) n 1 := by rw [eL5]; exact moF_0 (mom_0 hfi hdn) (mom_n hen hdn)
                refine pw_iconst (x := 1) h d_X8_bends_309 (by decide) ?_
                refine pw_nmI (fun v6_310 e6_310 => ?_)
                refine pw_istore (lv' := [(6, .int v6_310), (0, .ref m), (1, .int v1_6), (2, .long v2_12), (4, .long v4_18)]) h d_X8_bends_310 _ hml (by decide) rfl ?_
                have cut_312 : ∀ (N i : Nat) (v : Int32) (L4 : LM), n + 1 < i + N → 1 ≤ i → i ≤ n + 1 → v = nI i → frBn m L L4 → hdF m L4 (spR pl n) (n + 1) → rtF m L4 (rhoQ (xR' pl) (spR pl n) hg w F n) (n + 1) → tlF m L4 (spR pl n) n 0 → RI (L4 m 29) (cH (spR pl n) (n + 1)) → moF m L4 (momM pl hg w F n) n i → PW X 312 [(0, .ref m), (1, .int v1_6), (2, .long v2_12), (4, .long v4_18), (6, .int v)] [] sh I L4 R 0 0 := by
                  intro N
                  induction N with
                  | zero => intros; omega
                  | succ N ihm =>
                    intro i v L4 hN hi1 hin1 ev fr4 hh4 hrt4 htl4 hdt hmo
                    refine pw_iload h 4 d_X8_bends_312 rfl ?_
                    refine pw_iload_n h 1 d_X8_bends_314 rfl ?_
                    refine pw_icmp_ge 448 h d_X8_bends_315 (by decide) (fun c_315 => ?_) (fun c_315 => ?_)
                    · skip
                      have hge : n + 1 ≤ i := k_ge ev el (by omega) (by omega) c_315
                      refine pw_vret h hr d_X8_bends_448 (by decide) (by decide) ?_
                      exact ⟨rfl, rfl, rfl, rfl, fr4, hdt, fun k hk => hmo k (by omega)⟩
                    · skip
                      have hin : i ≤ n := by have := k_lt ev el (by omega) (by omega) c_315; omega
                      have hxi7 : px_ix v 7 i := k_ix ev (by omega) (by decide)
                      refine pw_lconst (x := 0) h d_X8_bends_318 (by decide) ?_
                      refine pw_nmL (fun v7_319 e7_319 => ?_)
                      refine pw_lstore (lv' := [(7, .long v7_319), (0, .ref m), (1, .int v1_6), (2, .long v2_12), (4, .long v4_18), (6, .int v)]) h d_X8_bends_319 _ hml (by decide) rfl ?_
                      refine pw_iconst (x := 1) h d_X8_bends_321 (by decide) ?_
                      refine pw_nmI (fun v9_322 e9_322 => ?_)
                      refine pw_istore (lv' := [(9, .int v9_322), (7, .long v7_319), (0, .ref m), (1, .int v1_6), (2, .long v2_12), (4, .long v4_18), (6, .int v)]) h d_X8_bends_322 _ hml (by decide) rfl ?_
                      have cut_324 : ∀ (N j : Nat) (sm : Int64) (y : Int32), n + 1 < j + N → 1 ≤ j → j ≤ n + 1 → y = nI j → RI sm (sQ (fun k => gE (spR pl n) (tlQ (spR pl n) n) i (k + 1) * (27720 * (rhoQ (xR' pl) (spR pl n) hg w F n) k)) (j - 1)) → PW X 324 [(0, .ref m), (1, .int v1_6), (2, .long v2_12), (4, .long v4_18), (6, .int v), (7, .long sm), (9, .int y)] [] sh I L4 R 0 0 := by
                        intro N
                        induction N with
                        | zero => intros; omega
                        | succ N ihj =>
                          intro j sm y hN hj1 hjn ey hsm
                          refine pw_iload h 6 d_X8_bends_324 rfl ?_
                          refine pw_iload_n h 1 d_X8_bends_326 rfl ?_
                          refine pw_icmp_ge 433 h d_X8_bends_327 (by decide) (fun c_327 => ?_) (fun c_327 => ?_)
                          · skip
                            have hge : n + 1 ≤ j := k_ge ey el (by omega) (by omega) c_327
                            have e9 : j = n + 1 := by omega
                            subst e9
                            rw [show n + 1 - 1 = n by omega] at hsm
                            refine pw_aload_n h 0 d_X8_bends_433 rfl ?_
                            refine pw_getR (j := (m + 16)) 8 h d_X8_bends_434 fd_RX8_64 (by assumption) rfl (by assumption) ?_
                            refine pw_iload h 4 d_X8_bends_437 rfl ?_
                            refine pw_lload h 5 d_X8_bends_439 rfl ?_
                            refine pw_last h d_X8_bends_441 (by assumption) (by assumption) ?_
                            obtain ⟨v6_442, e6_442⟩ : ∃ z : Int32, z = v + (1) := ⟨_, rfl⟩
                            refine pw_iinc (lv' := [(6, .int v6_442), (0, .ref m), (1, .int v1_6), (2, .long v2_12), (4, .long v4_18), (7, .long sm), (9, .int y)]) v6_442 h d_X8_bends_442 4 rfl e6_442.symm _ hml (by decide) rfl ?_
                            refine pw_goto 312 h d_X8_bends_445 (by decide) ?_
                            refine PW.perm [1, 2, 3, 4, 0] rfl ?_
                            exact ihm (i + 1) _ _ (by omega) (by omega) (by omega) (k_up e6_442 ev) (frBn_u fr4 (by omega)) (hdF_u hh4 (by omega)) (rtF_u hrt4 (by omega)) (tlF_u htl4 (by omega)) (by rw [u2_n1 (by omega)]; exact hdt) (moF_s hin hmo (mom_M hi1 hin hP hsm))
                          · skip
                            have hjl : j < n + 1 := k_lt ey el (by omega) (by omega) c_327
                            have hxj : px_ix y 7 j := k_ix ey (by omega) (by decide)
                            have hRj : RI (L4 (m + 17) j) (27720 * (rhoQ (xR' pl) (spR pl n) hg w F n) (j - 1)) := by have := hrt4 (j - 1) (by omega); rw [show j - 1 + 1 = j by omega] at this; exact this
                            refine pw_iload h 4 d_X8_bends_330 rfl ?_
                            refine pw_iload h 6 d_X8_bends_332 rfl ?_
                            have cut_387 : ∀ (N k : Nat) (lo hi u : Int32) (b : Int64), max i j < k + N → min i j ≤ k → k ≤ max i j → lo = nI (min i j) → hi = nI (max i j) → u = nI k → RI b (cH (spR pl n) (min i j) * (tlQ (spR pl n) n) (max i j + 1) * nPr (spR pl n) (min i j) (k - min i j)) → PW X 387 [(0, .ref m), (1, .int v1_6), (2, .long v2_12), (4, .long v4_18), (6, .int v), (7, .long sm), (9, .int y), (10, .int lo), (11, .int hi), (12, .long b), (14, .int u)] [] sh I L4 R 0 0 := by
                              intro N
                              induction N with
                              | zero => intros; omega
                              | succ N ihk =>
                                intro k lo hi u b hN hk1 hk2 elo ehi ek hby
                                refine pw_iload h 10 d_X8_bends_387 rfl ?_
                                refine pw_iload h 8 d_X8_bends_389 rfl ?_
                                refine pw_icmp_ge 412 h d_X8_bends_391 (by decide) (fun c_391 => ?_) (fun c_391 => ?_)
                                · skip
                                  have hge : max i j ≤ k := k_ge ek ehi (by omega) (by omega) c_391
                                  have e9 : k = max i j := by omega
                                  subst e9
                                  refine pw_lload h 5 d_X8_bends_412 rfl ?_
                                  refine pw_lload h 9 d_X8_bends_414 rfl ?_
                                  refine pw_aload_n h 0 d_X8_bends_416 rfl ?_
                                  refine pw_getR (j := (m + 17)) 8 h d_X8_bends_417 fd_RX8_67 (by assumption) rfl (by assumption) ?_
                                  refine pw_iload h 6 d_X8_bends_420 rfl ?_
                                  refine pw_lald h d_X8_bends_422 (by assumption) (by assumption) ?_
                                  refine pw_lmul h d_X8_bends_423 ?_
                                  refine pw_ladd h d_X8_bends_424 ?_
                                  refine pw_nmL (fun v7_425 e7_425 => ?_)
                                  refine pw_lstore (lv' := [(7, .long v7_425), (0, .ref m), (1, .int v1_6), (2, .long v2_12), (4, .long v4_18), (6, .int v), (9, .int y), (10, .int lo), (11, .int hi), (12, .long b), (14, .int u)]) h d_X8_bends_425 _ hml (by decide) rfl ?_
                                  obtain ⟨v9_427, e9_427⟩ : ∃ z : Int32, z = y + (1) := ⟨_, rfl⟩
                                  refine pw_iinc (lv' := [(9, .int v9_427), (7, .long v7_425), (0, .ref m), (1, .int v1_6), (2, .long v2_12), (4, .long v4_18), (6, .int v), (10, .int lo), (11, .int hi), (12, .long b), (14, .int u)]) v9_427 h d_X8_bends_427 6 rfl e9_427.symm _ hml (by decide) rfl ?_
                                  refine pw_goto 324 h d_X8_bends_430 (by decide) ?_
                                  refine PW.perm [2, 3, 4, 5, 6, 1, 0] rfl ?_
                                  exact ihj (j + 1) _ _ (by omega) (by omega) (by omega) (k_up e9_427 ey) (by rw [e7_425]; exact by_M hj1 hsm hby hRj)
                                · skip
                                  have hkl : k < max i j := k_lt ek ehi (by omega) (by omega) c_391
                                  refine pw_lload h 9 d_X8_bends_394 rfl ?_
                                  refine pw_aload_n h 0 d_X8_bends_396 rfl ?_
                                  refine pw_iload h 10 d_X8_bends_397 rfl ?_
                                  refine pw_callV (As := [.int _]) h d_X8_bends_399 mf_X8_side mi_X8_side ml_RX8_226 ⟨by decide, by decide, by decide⟩ (by assumption) rfl rfl (Nat.le_of_ble_eq_true rfl) trivial (c_X8_side (i := k) hM0 ek (by omega)) ?_
                                  refine PKk.ret ?_
                                  refine pw_lneg h d_X8_bends_402 ?_
                                  refine pw_lmul h d_X8_bends_403 ?_
                                  refine pw_nmL (fun v12_404 e12_404 => ?_)
                                  refine pw_lstore (lv' := [(12, .long v12_404), (0, .ref m), (1, .int v1_6), (2, .long v2_12), (4, .long v4_18), (6, .int v), (7, .long sm), (9, .int y), (10, .int lo), (11, .int hi), (14, .int u)]) h d_X8_bends_404 _ hml (by decide) rfl ?_
                                  obtain ⟨v14_406, e14_406⟩ : ∃ z : Int32, z = u + (1) := ⟨_, rfl⟩
                                  refine pw_iinc (lv' := [(14, .int v14_406), (12, .long v12_404), (0, .ref m), (1, .int v1_6), (2, .long v2_12), (4, .long v4_18), (6, .int v), (7, .long sm), (9, .int y), (10, .int lo), (11, .int hi)]) v14_406 h d_X8_bends_406 10 rfl e14_406.symm _ hml (by decide) rfl ?_
                                  refine pw_goto 387 h d_X8_bends_409 (by decide) ?_
                                  refine PW.perm [2, 3, 4, 5, 6, 7, 8, 9, 10, 1, 0] rfl ?_
                                  exact ihk (k + 1) _ _ _ _ (by omega) (by omega) (by omega) elo ehi (k_up e14_406 ek) (by rw [e12_404]; exact by_s hk1 hby (sm_sd hP hS (by omega)))
                            refine pw_icmp_ge 342 h d_X8_bends_334 (by decide) (fun c_334 => ?_) (fun c_334 => ?_)
                            · skip
                              have hji : j ≤ i := k_ge ev ey (by omega) (by omega) c_334
                              refine pw_iload h 6 d_X8_bends_342 rfl ?_
                              refine pw_nmI (fun v10_344 e10_344 => ?_)
                              refine pw_istore (lv' := [(10, .int v10_344), (0, .ref m), (1, .int v1_6), (2, .long v2_12), (4, .long v4_18), (6, .int v), (7, .long sm), (9, .int y)]) h d_X8_bends_344 _ hml (by decide) rfl ?_
                              refine pw_iload h 5 d_X8_bends_346 rfl ?_
                              refine pw_iload h 7 d_X8_bends_348 rfl ?_
                              refine pw_icmp_ge 358 h d_X8_bends_350 (by decide) (fun c_350 => ?_) (fun c_350 => ?_)
                              · skip
                                refine pw_iload h 5 d_X8_bends_358 rfl ?_
                                refine pw_nmI (fun v11_360 e11_360 => ?_)
                                refine pw_istore (lv' := [(11, .int v11_360), (10, .int v10_344), (0, .ref m), (1, .int v1_6), (2, .long v2_12), (4, .long v4_18), (6, .int v), (7, .long sm), (9, .int y)]) h d_X8_bends_360 _ hml (by decide) rfl ?_
                                have e10_344 : v10_344 = nI (min i j) := by rw [e10_344, Nat.min_eq_right hji]; exact ey
                                have e11_360 : v11_360 = nI (max i j) := by rw [e11_360, Nat.max_eq_left hji]; exact ev
                                have hxlo : px_ix (v10_344 - 1) 8 (min i j - 1) := k_ix (k_dn1 e10_344 (by omega)) (by omega) (by decide)
                                have hxhi : px_ix (v11_360 + 1) 9 (max i j + 1) := k_ix (k_up rfl e11_360) (by omega) (by decide)
                                refine pw_aload_n h 2 d_X8_bends_362 rfl ?_
                                refine pw_getR (j := (m + 18)) 8 h d_X8_bends_363 fd_RX8_70 (by assumption) rfl (by assumption) ?_
                                refine pw_iload h 1 d_X8_bends_366 rfl ?_
                                refine pw_iconst (x := 1) h d_X8_bends_368 (by decide) ?_
                                refine pw_isub h d_X8_bends_369 ?_
                                refine pw_lald h d_X8_bends_370 (by assumption) (by assumption) ?_
                                refine pw_aload_n h 2 d_X8_bends_371 rfl ?_
                                refine pw_getR (j := (m + 19)) 8 h d_X8_bends_372 fd_RX8_73 (by assumption) rfl (by assumption) ?_
                                refine pw_iload h 0 d_X8_bends_375 rfl ?_
                                refine pw_iconst (x := 1) h d_X8_bends_377 (by decide) ?_
                                refine pw_iadd h d_X8_bends_378 ?_
                                refine pw_lald h d_X8_bends_379 (by assumption) (by assumption) ?_
                                refine pw_lmul h d_X8_bends_380 ?_
                                refine pw_nmL (fun v12_381 e12_381 => ?_)
                                refine pw_lstore (lv' := [(12, .long v12_381), (11, .int v11_360), (10, .int v10_344), (0, .ref m), (1, .int v1_6), (2, .long v2_12), (4, .long v4_18), (6, .int v), (7, .long sm), (9, .int y)]) h d_X8_bends_381 _ hml (by decide) rfl ?_
                                refine pw_iload h 2 d_X8_bends_383 rfl ?_
                                refine pw_nmI (fun v14_385 e14_385 => ?_)
                                refine pw_istore (lv' := [(14, .int v14_385), (12, .long v12_381), (11, .int v11_360), (10, .int v10_344), (0, .ref m), (1, .int v1_6), (2, .long v2_12), (4, .long v4_18), (6, .int v), (7, .long sm), (9, .int y)]) h d_X8_bends_385 _ hml (by decide) rfl ?_
                                refine PW.perm [4, 5, 6, 7, 8, 9, 10, 3, 2, 1, 0] rfl ?_
                                exact cut_387 (max i j + 1) (min i j) _ _ _ _ (by omega) (Nat.le_refl _) (by omega) e10_344 e11_360 (e14_385.trans e10_344) (by rw [e12_381]; exact by_0 (hh4 (min i j - 1) (by omega)) (htl4 (max i j + 1) (by omega) (by omega)) (by omega))
                              · exact absurd c_334 c_350
                            · skip
                              have hij : i < j := k_lt ev ey (by omega) (by omega) c_334
                              refine pw_iload h 4 d_X8_bends_337 rfl ?_
                              refine pw_goto 344 h d_X8_bends_339 (by decide) ?_
                              refine pw_nmI (fun v10_344 e10_344 => ?_)
                              refine pw_istore (lv' := [(10, .int v10_344), (0, .ref m), (1, .int v1_6), (2, .long v2_12), (4, .long v4_18), (6, .int v), (7, .long sm), (9, .int y)]) h d_X8_bends_344 _ hml (by decide) rfl ?_
                              refine pw_iload h 5 d_X8_bends_346 rfl ?_
                              refine pw_iload h 7 d_X8_bends_348 rfl ?_
                              refine pw_icmp_ge 358 h d_X8_bends_350 (by decide) (fun c_350 => ?_) (fun c_350 => ?_)
                              · exact absurd c_350 c_334
                              · skip
                                refine pw_iload h 7 d_X8_bends_353 rfl ?_
                                refine pw_goto 360 h d_X8_bends_355 (by decide) ?_
                                refine pw_nmI (fun v11_360 e11_360 => ?_)
                                refine pw_istore (lv' := [(11, .int v11_360), (10, .int v10_344), (0, .ref m), (1, .int v1_6), (2, .long v2_12), (4, .long v4_18), (6, .int v), (7, .long sm), (9, .int y)]) h d_X8_bends_360 _ hml (by decide) rfl ?_
                                have e10_344 : v10_344 = nI (min i j) := by rw [e10_344, Nat.min_eq_left (by omega)]; exact ev
                                have e11_360 : v11_360 = nI (max i j) := by rw [e11_360, Nat.max_eq_right (by omega)]; exact ey
                                have hxlo : px_ix (v10_344 - 1) 8 (min i j - 1) := k_ix (k_dn1 e10_344 (by omega)) (by omega) (by decide)
                                have hxhi : px_ix (v11_360 + 1) 9 (max i j + 1) := k_ix (k_up rfl e11_360) (by omega) (by decide)
                                refine pw_aload_n h 2 d_X8_bends_362 rfl ?_
                                refine pw_getR (j := (m + 18)) 8 h d_X8_bends_363 fd_RX8_70 (by assumption) rfl (by assumption) ?_
                                refine pw_iload h 1 d_X8_bends_366 rfl ?_
                                refine pw_iconst (x := 1) h d_X8_bends_368 (by decide) ?_
                                refine pw_isub h d_X8_bends_369 ?_
                                refine pw_lald h d_X8_bends_370 (by assumption) (by assumption) ?_
                                refine pw_aload_n h 2 d_X8_bends_371 rfl ?_
                                refine pw_getR (j := (m + 19)) 8 h d_X8_bends_372 fd_RX8_73 (by assumption) rfl (by assumption) ?_
                                refine pw_iload h 0 d_X8_bends_375 rfl ?_
                                refine pw_iconst (x := 1) h d_X8_bends_377 (by decide) ?_
                                refine pw_iadd h d_X8_bends_378 ?_
                                refine pw_lald h d_X8_bends_379 (by assumption) (by assumption) ?_
                                refine pw_lmul h d_X8_bends_380 ?_
                                refine pw_nmL (fun v12_381 e12_381 => ?_)
                                refine pw_lstore (lv' := [(12, .long v12_381), (11, .int v11_360), (10, .int v10_344), (0, .ref m), (1, .int v1_6), (2, .long v2_12), (4, .long v4_18), (6, .int v), (7, .long sm), (9, .int y)]) h d_X8_bends_381 _ hml (by decide) rfl ?_
                                refine pw_iload h 2 d_X8_bends_383 rfl ?_
                                refine pw_nmI (fun v14_385 e14_385 => ?_)
                                refine pw_istore (lv' := [(14, .int v14_385), (12, .long v12_381), (11, .int v11_360), (10, .int v10_344), (0, .ref m), (1, .int v1_6), (2, .long v2_12), (4, .long v4_18), (6, .int v), (7, .long sm), (9, .int y)]) h d_X8_bends_385 _ hml (by decide) rfl ?_
                                refine PW.perm [4, 5, 6, 7, 8, 9, 10, 3, 2, 1, 0] rfl ?_
                                exact cut_387 (max i j + 1) (min i j) _ _ _ _ (by omega) (Nat.le_refl _) (by omega) e10_344 e11_360 (e14_385.trans e10_344) (by rw [e12_381]; exact by_0 (hh4 (min i j - 1) (by omega)) (htl4 (max i j + 1) (by omega) (by omega)) (by omega))
                      refine PW.perm [2, 3, 4, 5, 6, 1, 0] rfl ?_
                      exact cut_324 (n + 1) 1 _ _ (by omega) (by omega) (by omega) e9_322 (by rw [e7_319]; exact RI_0)
                refine PW.perm [1, 2, 3, 4, 0] rfl ?_
                exact cut_312 (n + 2) 1 _ _ (by omega) (by omega) (by omega) e6_310 fr5 hh5 hrt5 htl5 hdt5 hmo5
            · skip
              have hi1 : 0 < i := k_p ev (by omega) c_188
              have hx9 : px_ix v 9 i := k_ix ev (by omega) (by decide)
              have hx91 : px_ix (v + 1) 9 (i + 1) := k_ix (k_up rfl ev) (by omega) (by decide)
              refine pw_aload_n h 0 d_X8_bends_191 rfl ?_
              refine pw_getR (j := (m + 19)) 8 h d_X8_bends_192 fd_RX8_73 (by assumption) rfl (by assumption) ?_
              refine pw_iload h 4 d_X8_bends_195 rfl ?_
              refine pw_aload_n h 0 d_X8_bends_197 rfl ?_
              refine pw_iload h 4 d_X8_bends_198 rfl ?_
              refine pw_callV (As := [.int _]) h d_X8_bends_200 mf_X8_diagonal mi_X8_diagonal ml_RX8_222 ⟨by decide, by decide, by decide⟩ (by assumption) rfl rfl (Nat.le_of_ble_eq_true rfl) trivial (c_X8_diagonal hM0 ev hi1 (by omega)) ?_
              refine PKk.ret ?_
              refine pw_aload_n h 0 d_X8_bends_203 rfl ?_
              refine pw_getR (j := (m + 19)) 8 h d_X8_bends_204 fd_RX8_73 (by assumption) rfl (by assumption) ?_
              refine pw_iload h 4 d_X8_bends_207 rfl ?_
              refine pw_iconst (x := 1) h d_X8_bends_209 (by decide) ?_
              refine pw_iadd h d_X8_bends_210 ?_
              refine pw_lald h d_X8_bends_211 (by assumption) (by assumption) ?_
              refine pw_lmul h d_X8_bends_212 ?_
              refine pw_iload h 4 d_X8_bends_213 rfl ?_
              refine pw_iload_n h 1 d_X8_bends_215 rfl ?_
              refine pw_iconst (x := 1) h d_X8_bends_216 (by decide) ?_
              refine pw_isub h d_X8_bends_217 ?_
              refine pw_icmp_ge 247 h d_X8_bends_218 (by decide) (fun c_218 => ?_) (fun c_218 => ?_)
              · skip
                have hge : n ≤ i := k_ge ev eln (by omega) (by omega) c_218
                refine pw_lconst (x := 0) h d_X8_bends_247 (by decide) ?_
                refine pw_lsub h d_X8_bends_248 ?_
                refine pw_nmL (fun E3 eE3 => ?_)
                have hE3 : RI E3 (tlQ (spR pl n) n i) := by rw [eE3]; exact tl_1 hi1 (by omega) (sm_dg hP hS hi1 (by omega)) (htl (i + 1) (by omega) (by omega))
                refine pw_last h d_X8_bends_249 (by assumption) (by assumption) ?_
                obtain ⟨v6_250, e6_250⟩ : ∃ z : Int32, z = v + (-1) := ⟨_, rfl⟩
                refine pw_iinc (lv' := [(6, .int v6_250), (0, .ref m), (1, .int v1_6), (2, .long v2_12), (4, .long v4_18)]) v6_250 h d_X8_bends_250 4 rfl e6_250.symm _ hml (by decide) rfl ?_
                refine pw_goto 186 h d_X8_bends_253 (by decide) ?_
                refine PW.perm [1, 2, 3, 4, 0] rfl ?_
                exact iht (i - 1) _ _ (by omega) (by omega) (k_dn e6_250 ev hi1) (frBn_u fr3 (by omega)) (hdF_u hh (by omega)) (rtF_u hrt (by omega)) (tlF_s hi1 htl hE3)
              · skip
                have hlt : i < n := k_lt ev eln (by omega) (by omega) c_218
                have hx92 : px_ix (v + 2) 9 (i + 2) := k_ix (k_up2 ev) (by omega) (by decide)
                refine pw_aload_n h 0 d_X8_bends_221 rfl ?_
                refine pw_iload h 4 d_X8_bends_222 rfl ?_
                refine pw_callV (As := [.int _]) h d_X8_bends_224 mf_X8_side mi_X8_side ml_RX8_226 ⟨by decide, by decide, by decide⟩ (by assumption) rfl rfl (Nat.le_of_ble_eq_true rfl) trivial (c_X8_side (i := i) hM0 ev (by omega)) ?_
                refine PKk.ret ?_
                refine pw_aload_n h 0 d_X8_bends_227 rfl ?_
                refine pw_iload h 4 d_X8_bends_228 rfl ?_
                refine pw_callV (As := [.int _]) h d_X8_bends_230 mf_X8_side mi_X8_side ml_RX8_226 ⟨by decide, by decide, by decide⟩ (by assumption) rfl rfl (Nat.le_of_ble_eq_true rfl) trivial (c_X8_side (i := i) hM0 ev (by omega)) ?_
                refine PKk.ret ?_
                refine pw_lmul h d_X8_bends_233 ?_
                refine pw_aload_n h 0 d_X8_bends_234 rfl ?_
                refine pw_getR (j := (m + 19)) 8 h d_X8_bends_235 fd_RX8_73 (by assumption) rfl (by assumption) ?_
                refine pw_iload h 4 d_X8_bends_238 rfl ?_
                refine pw_iconst (x := 2) h d_X8_bends_240 (by decide) ?_
                refine pw_iadd h d_X8_bends_241 ?_
                refine pw_lald h d_X8_bends_242 (by assumption) (by assumption) ?_
                refine pw_lmul h d_X8_bends_243 ?_
                refine pw_goto 248 h d_X8_bends_244 (by decide) ?_
                refine pw_lsub h d_X8_bends_248 ?_
                refine pw_nmL (fun E3 eE3 => ?_)
                have hE3 : RI E3 (tlQ (spR pl n) n i) := by rw [eE3]; exact tl_2 hi1 hlt (sm_dg hP hS hi1 (by omega)) (htl (i + 1) (by omega) (by omega)) (sm_sd hP hS (by omega)) (htl (i + 2) (by omega) (by omega))
                refine pw_last h d_X8_bends_249 (by assumption) (by assumption) ?_
                obtain ⟨v6_250, e6_250⟩ : ∃ z : Int32, z = v + (-1) := ⟨_, rfl⟩
                refine pw_iinc (lv' := [(6, .int v6_250), (0, .ref m), (1, .int v1_6), (2, .long v2_12), (4, .long v4_18)]) v6_250 h d_X8_bends_250 4 rfl e6_250.symm _ hml (by decide) rfl ?_
                refine pw_goto 186 h d_X8_bends_253 (by decide) ?_
                refine PW.perm [1, 2, 3, 4, 0] rfl ?_
                exact iht (i - 1) _ _ (by omega) (by omega) (k_dn e6_250 ev hi1) (frBn_u fr3 (by omega)) (hdF_u hh (by omega)) (rtF_u hrt (by omega)) (tlF_s hi1 htl hE3)
        refine PW.perm [1, 2, 3, 4, 0] rfl ?_
        exact cut_186 (n + 1) n _ _ (by omega) (Nat.le_refl n) (e6_184.trans eln) (frBn_u (frBn_u fr2 (by omega)) (by omega)) (hdF_u (hdF_u hh (by omega)) (by omega)) (rtF_u (rtF_u hrt (by omega)) (by omega)) tlF_0
      · skip
        have hin : i < n + 1 := k_lt ev el (by omega) (by omega) c_33
        have hxi7 : px_ix v 7 i := k_ix ev (by omega) (by decide)
        have hxi8 : px_ix v 8 i := k_ix ev (by omega) (by decide)
        have hx1 : px_ix (v - 1) 8 (i - 1) := k_ix (k_dn1 ev hi1) (by omega) (by decide)
        refine pw_aload_n h 0 d_X8_bends_36 rfl ?_
        refine pw_getR (j := (m + 18)) 8 h d_X8_bends_37 fd_RX8_70 (by assumption) rfl (by assumption) ?_
        refine pw_iload h 4 d_X8_bends_40 rfl ?_
        refine pw_aload_n h 0 d_X8_bends_42 rfl ?_
        refine pw_iload h 4 d_X8_bends_43 rfl ?_
        refine pw_callV (As := [.int _]) h d_X8_bends_45 mf_X8_diagonal mi_X8_diagonal ml_RX8_222 ⟨by decide, by decide, by decide⟩ (by assumption) rfl rfl (Nat.le_of_ble_eq_true rfl) trivial (c_X8_diagonal hM0 ev hi1 (by omega)) ?_
        refine PKk.ret ?_
        refine pw_aload_n h 0 d_X8_bends_48 rfl ?_
        refine pw_getR (j := (m + 18)) 8 h d_X8_bends_49 fd_RX8_70 (by assumption) rfl (by assumption) ?_
        refine pw_iload h 4 d_X8_bends_52 rfl ?_
        refine pw_iconst (x := 1) h d_X8_bends_54 (by decide) ?_
        refine pw_isub h d_X8_bends_55 ?_
        refine pw_lald h d_X8_bends_56 (by assumption) (by assumption) ?_
        refine pw_lmul h d_X8_bends_57 ?_
        refine pw_iload h 4 d_X8_bends_58 rfl ?_
        refine pw_iconst (x := 1) h d_X8_bends_60 (by decide) ?_
        refine pw_icmp_le 94 h d_X8_bends_61 (by decide) (fun c_61 => ?_) (fun c_61 => ?_)
        · skip
          have hle : i ≤ 1 := by have := k_le2 (n := 1) ev rfl (by omega) (by omega) c_61; omega
          refine pw_lconst (x := 0) h d_X8_bends_94 (by decide) ?_
          refine pw_lsub h d_X8_bends_95 ?_
          refine pw_nmL (fun E1 eE1 => ?_)
          have hE1 : RI E1 (cH (spR pl n) (i + 1)) := by rw [eE1]; exact hd_1 hi1 hle (sm_dg hP hS hi1 hin) (hh (i - 1) (by omega))
          refine pw_last h d_X8_bends_96 (by assumption) (by assumption) ?_
          refine pw_aload_n h 0 d_X8_bends_97 rfl ?_
          refine pw_getR (j := (m + 17)) 8 h d_X8_bends_98 fd_RX8_67 (by assumption) rfl (by assumption) ?_
          refine pw_iload h 4 d_X8_bends_101 rfl ?_
          refine pw_aload_n h 0 d_X8_bends_103 rfl ?_
          refine pw_iload h 4 d_X8_bends_104 rfl ?_
          refine pw_callV (As := [.int _]) h d_X8_bends_106 mf_X8_right mi_X8_right ml_RX8_229 ⟨by decide, by decide, by decide⟩ (by assumption) rfl rfl (Nat.le_of_ble_eq_true rfl) trivial (c_X8_right hM0 ev hi1 (by omega) (sm_l0 hP hS hi1 hin) (sm_nz hP hS hin)) ?_
          refine PKk.ret ?_
          refine pw_iload h 4 d_X8_bends_109 rfl ?_
          refine pw_iconst (x := 1) h d_X8_bends_111 (by decide) ?_
          refine pw_icmp_ne 129 h d_X8_bends_112 (by decide) (fun c_112 => ?_) (fun c_112 => ?_)
          · skip
            have q1 : ¬ i = 1 := fun q => c_112 (by rw [ev, q]; rfl)
            refine pw_lconst (x := 0) h d_X8_bends_129 (by decide) ?_
            refine pw_lsub h d_X8_bends_130 ?_
            refine pw_iload h 4 d_X8_bends_131 rfl ?_
            refine pw_iload_n h 1 d_X8_bends_133 rfl ?_
            refine pw_iconst (x := 1) h d_X8_bends_134 (by decide) ?_
            refine pw_isub h d_X8_bends_135 ?_
            refine pw_icmp_ne 156 h d_X8_bends_136 (by decide) (fun c_136 => ?_) (fun c_136 => ?_)
            · skip
              have qn : ¬ i = n := fun q => c_136 (by rw [ev, q, eln])
              refine pw_lconst (x := 0) h d_X8_bends_156 (by decide) ?_
              refine pw_lsub h d_X8_bends_157 ?_
              refine pw_nmL (fun E2 eE2 => ?_)
              have hE2 : RI E2 (27720 * (rhoQ (xR' pl) (spR pl n) hg w F n) (i - 1)) := by rw [eE2]; exact (rho_M hi1 (sm_rt hP hS hi1 hin) hfi hen (sm_sd hP hS (Nat.zero_lt_succ n)) (sm_sd hP hS (Nat.lt_succ_self n))).2.2.2 q1 qn
              obtain ⟨hh3, hr3⟩ := hr_s hi1 hh hrt hE1 hE2
              refine pw_last h d_X8_bends_158 (by assumption) (by assumption) ?_
              obtain ⟨v6_159, e6_159⟩ : ∃ z : Int32, z = v + (1) := ⟨_, rfl⟩
              refine pw_iinc (lv' := [(6, .int v6_159), (0, .ref m), (1, .int v1_6), (2, .long v2_12), (4, .long v4_18)]) v6_159 h d_X8_bends_159 4 rfl e6_159.symm _ hml (by decide) rfl ?_
              refine pw_goto 30 h d_X8_bends_162 (by decide) ?_
              refine PW.perm [1, 2, 3, 4, 0] rfl ?_
              exact ih (i + 1) _ _ (by omega) (by omega) (by omega) (k_up e6_159 ev) (frBn_u (frBn_u fr2 (by omega)) (by omega)) hh3 hr3
            · skip
              have qn : i = n := (nI_eq (by omega) (by omega)).mp (ev.symm.trans (c_136.trans eln))
              refine pw_ldc2 h d_X8_bends_139 ck_RX8_213 ?_
              refine pw_aload_n h 0 d_X8_bends_142 rfl ?_
              refine pw_iload_n h 1 d_X8_bends_143 rfl ?_
              refine pw_iconst (x := 1) h d_X8_bends_144 (by decide) ?_
              refine pw_isub h d_X8_bends_145 ?_
              refine pw_callV (As := [.int _]) h d_X8_bends_146 mf_X8_side mi_X8_side ml_RX8_226 ⟨by decide, by decide, by decide⟩ (by assumption) rfl rfl (Nat.le_of_ble_eq_true rfl) trivial (c_X8_side (i := n) hM0 eln (by omega)) ?_
              refine PKk.ret ?_
              refine pw_lmul h d_X8_bends_149 ?_
              refine pw_lload h 3 d_X8_bends_150 rfl ?_
              refine pw_lmul h d_X8_bends_152 ?_
              refine pw_goto 157 h d_X8_bends_153 (by decide) ?_
              refine pw_lsub h d_X8_bends_157 ?_
              refine pw_nmL (fun E2 eE2 => ?_)
              have hE2 : RI E2 (27720 * (rhoQ (xR' pl) (spR pl n) hg w F n) (i - 1)) := by rw [eE2]; exact (rho_M hi1 (sm_rt hP hS hi1 hin) hfi hen (sm_sd hP hS (Nat.zero_lt_succ n)) (sm_sd hP hS (Nat.lt_succ_self n))).2.2.1 q1 qn
              obtain ⟨hh3, hr3⟩ := hr_s hi1 hh hrt hE1 hE2
              refine pw_last h d_X8_bends_158 (by assumption) (by assumption) ?_
              obtain ⟨v6_159, e6_159⟩ : ∃ z : Int32, z = v + (1) := ⟨_, rfl⟩
              refine pw_iinc (lv' := [(6, .int v6_159), (0, .ref m), (1, .int v1_6), (2, .long v2_12), (4, .long v4_18)]) v6_159 h d_X8_bends_159 4 rfl e6_159.symm _ hml (by decide) rfl ?_
              refine pw_goto 30 h d_X8_bends_162 (by decide) ?_
              refine PW.perm [1, 2, 3, 4, 0] rfl ?_
              exact ih (i + 1) _ _ (by omega) (by omega) (by omega) (k_up e6_159 ev) (frBn_u (frBn_u fr2 (by omega)) (by omega)) hh3 hr3
          · skip
            have q1 : i = 1 := (nI_eq (by omega) (by decide)).mp (ev.symm.trans c_112)
            refine pw_ldc2 h d_X8_bends_115 ck_RX8_213 ?_
            refine pw_aload_n h 0 d_X8_bends_118 rfl ?_
            refine pw_iconst (x := 0) h d_X8_bends_119 (by decide) ?_
            refine pw_callV (As := [.int _]) h d_X8_bends_120 mf_X8_side mi_X8_side ml_RX8_226 ⟨by decide, by decide, by decide⟩ (by assumption) rfl rfl (Nat.le_of_ble_eq_true rfl) trivial (c_X8_side (i := 0) hM0 rfl (by omega)) ?_
            refine PKk.ret ?_
            refine pw_lmul h d_X8_bends_123 ?_
            refine pw_lload_n h 2 d_X8_bends_124 rfl ?_
            refine pw_lmul h d_X8_bends_125 ?_
            refine pw_goto 130 h d_X8_bends_126 (by decide) ?_
            refine pw_lsub h d_X8_bends_130 ?_
            refine pw_iload h 4 d_X8_bends_131 rfl ?_
            refine pw_iload_n h 1 d_X8_bends_133 rfl ?_
            refine pw_iconst (x := 1) h d_X8_bends_134 (by decide) ?_
            refine pw_isub h d_X8_bends_135 ?_
            refine pw_icmp_ne 156 h d_X8_bends_136 (by decide) (fun c_136 => ?_) (fun c_136 => ?_)
            · skip
              have qn : ¬ i = n := fun q => c_136 (by rw [ev, q, eln])
              refine pw_lconst (x := 0) h d_X8_bends_156 (by decide) ?_
              refine pw_lsub h d_X8_bends_157 ?_
              refine pw_nmL (fun E2 eE2 => ?_)
              have hE2 : RI E2 (27720 * (rhoQ (xR' pl) (spR pl n) hg w F n) (i - 1)) := by rw [eE2]; exact (rho_M hi1 (sm_rt hP hS hi1 hin) hfi hen (sm_sd hP hS (Nat.zero_lt_succ n)) (sm_sd hP hS (Nat.lt_succ_self n))).2.1 q1 qn
              obtain ⟨hh3, hr3⟩ := hr_s hi1 hh hrt hE1 hE2
              refine pw_last h d_X8_bends_158 (by assumption) (by assumption) ?_
              obtain ⟨v6_159, e6_159⟩ : ∃ z : Int32, z = v + (1) := ⟨_, rfl⟩
              refine pw_iinc (lv' := [(6, .int v6_159), (0, .ref m), (1, .int v1_6), (2, .long v2_12), (4, .long v4_18)]) v6_159 h d_X8_bends_159 4 rfl e6_159.symm _ hml (by decide) rfl ?_
              refine pw_goto 30 h d_X8_bends_162 (by decide) ?_
              refine PW.perm [1, 2, 3, 4, 0] rfl ?_
              exact ih (i + 1) _ _ (by omega) (by omega) (by omega) (k_up e6_159 ev) (frBn_u (frBn_u fr2 (by omega)) (by omega)) hh3 hr3
            · skip
              have qn : i = n := (nI_eq (by omega) (by omega)).mp (ev.symm.trans (c_136.trans eln))
              refine pw_ldc2 h d_X8_bends_139 ck_RX8_213 ?_
              refine pw_aload_n h 0 d_X8_bends_142 rfl ?_
              refine pw_iload_n h 1 d_X8_bends_143 rfl ?_
              refine pw_iconst (x := 1) h d_X8_bends_144 (by decide) ?_
              refine pw_isub h d_X8_bends_145 ?_
              refine pw_callV (As := [.int _]) h d_X8_bends_146 mf_X8_side mi_X8_side ml_RX8_226 ⟨by decide, by decide, by decide⟩ (by assumption) rfl rfl (Nat.le_of_ble_eq_true rfl) trivial (c_X8_side (i := n) hM0 eln (by omega)) ?_
              refine PKk.ret ?_
              refine pw_lmul h d_X8_bends_149 ?_
              refine pw_lload h 3 d_X8_bends_150 rfl ?_
              refine pw_lmul h d_X8_bends_152 ?_
              refine pw_goto 157 h d_X8_bends_153 (by decide) ?_
              refine pw_lsub h d_X8_bends_157 ?_
              refine pw_nmL (fun E2 eE2 => ?_)
              have hE2 : RI E2 (27720 * (rhoQ (xR' pl) (spR pl n) hg w F n) (i - 1)) := by rw [eE2]; exact (rho_M hi1 (sm_rt hP hS hi1 hin) hfi hen (sm_sd hP hS (Nat.zero_lt_succ n)) (sm_sd hP hS (Nat.lt_succ_self n))).1 q1 qn
              obtain ⟨hh3, hr3⟩ := hr_s hi1 hh hrt hE1 hE2
              refine pw_last h d_X8_bends_158 (by assumption) (by assumption) ?_
              obtain ⟨v6_159, e6_159⟩ : ∃ z : Int32, z = v + (1) := ⟨_, rfl⟩
              refine pw_iinc (lv' := [(6, .int v6_159), (0, .ref m), (1, .int v1_6), (2, .long v2_12), (4, .long v4_18)]) v6_159 h d_X8_bends_159 4 rfl e6_159.symm _ hml (by decide) rfl ?_
              refine pw_goto 30 h d_X8_bends_162 (by decide) ?_
              refine PW.perm [1, 2, 3, 4, 0] rfl ?_
              exact ih (i + 1) _ _ (by omega) (by omega) (by omega) (k_up e6_159 ev) (frBn_u (frBn_u fr2 (by omega)) (by omega)) hh3 hr3
        · skip
          have hgt : 1 < i := by have := k_gt2 (n := 1) ev rfl (by omega) (by omega) c_61; omega
          have hx2 : px_ix (v - 2) 8 (i - 2) := k_ix (k_dn2 ev hgt) (by omega) (by decide)
          refine pw_aload_n h 0 d_X8_bends_64 rfl ?_
          refine pw_iload h 4 d_X8_bends_65 rfl ?_
          refine pw_iconst (x := 1) h d_X8_bends_67 (by decide) ?_
          refine pw_isub h d_X8_bends_68 ?_
          refine pw_callV (As := [.int _]) h d_X8_bends_69 mf_X8_side mi_X8_side ml_RX8_226 ⟨by decide, by decide, by decide⟩ (by assumption) rfl rfl (Nat.le_of_ble_eq_true rfl) trivial (c_X8_side (i := i - 1) hM0 (k_dn1 ev hi1) (by omega)) ?_
          refine PKk.ret ?_
          refine pw_aload_n h 0 d_X8_bends_72 rfl ?_
          refine pw_iload h 4 d_X8_bends_73 rfl ?_
          refine pw_iconst (x := 1) h d_X8_bends_75 (by decide) ?_
          refine pw_isub h d_X8_bends_76 ?_
          refine pw_callV (As := [.int _]) h d_X8_bends_77 mf_X8_side mi_X8_side ml_RX8_226 ⟨by decide, by decide, by decide⟩ (by assumption) rfl rfl (Nat.le_of_ble_eq_true rfl) trivial (c_X8_side (i := i - 1) hM0 (k_dn1 ev hi1) (by omega)) ?_
          refine PKk.ret ?_
          refine pw_lmul h d_X8_bends_80 ?_
          refine pw_aload_n h 0 d_X8_bends_81 rfl ?_
          refine pw_getR (j := (m + 18)) 8 h d_X8_bends_82 fd_RX8_70 (by assumption) rfl (by assumption) ?_
          refine pw_iload h 4 d_X8_bends_85 rfl ?_
          refine pw_iconst (x := 2) h d_X8_bends_87 (by decide) ?_
          refine pw_isub h d_X8_bends_88 ?_
          refine pw_lald h d_X8_bends_89 (by assumption) (by assumption) ?_
          refine pw_lmul h d_X8_bends_90 ?_
          refine pw_goto 95 h d_X8_bends_91 (by decide) ?_
          refine pw_lsub h d_X8_bends_95 ?_
          refine pw_nmL (fun E1 eE1 => ?_)
          have hE1 : RI E1 (cH (spR pl n) (i + 1)) := by rw [eE1]; exact hd_2 hgt (sm_dg hP hS hi1 hin) (hh (i - 1) (by omega)) (sm_s1 hP hS hi1 hin) (hh (i - 2) (by omega))
          refine pw_last h d_X8_bends_96 (by assumption) (by assumption) ?_
          refine pw_aload_n h 0 d_X8_bends_97 rfl ?_
          refine pw_getR (j := (m + 17)) 8 h d_X8_bends_98 fd_RX8_67 (by assumption) rfl (by assumption) ?_
          refine pw_iload h 4 d_X8_bends_101 rfl ?_
          refine pw_aload_n h 0 d_X8_bends_103 rfl ?_
          refine pw_iload h 4 d_X8_bends_104 rfl ?_
          refine pw_callV (As := [.int _]) h d_X8_bends_106 mf_X8_right mi_X8_right ml_RX8_229 ⟨by decide, by decide, by decide⟩ (by assumption) rfl rfl (Nat.le_of_ble_eq_true rfl) trivial (c_X8_right hM0 ev hi1 (by omega) (sm_l0 hP hS hi1 hin) (sm_nz hP hS hin)) ?_
          refine PKk.ret ?_
          refine pw_iload h 4 d_X8_bends_109 rfl ?_
          refine pw_iconst (x := 1) h d_X8_bends_111 (by decide) ?_
          refine pw_icmp_ne 129 h d_X8_bends_112 (by decide) (fun c_112 => ?_) (fun c_112 => ?_)
          · skip
            have q1 : ¬ i = 1 := fun q => c_112 (by rw [ev, q]; rfl)
            refine pw_lconst (x := 0) h d_X8_bends_129 (by decide) ?_
            refine pw_lsub h d_X8_bends_130 ?_
            refine pw_iload h 4 d_X8_bends_131 rfl ?_
            refine pw_iload_n h 1 d_X8_bends_133 rfl ?_
            refine pw_iconst (x := 1) h d_X8_bends_134 (by decide) ?_
            refine pw_isub h d_X8_bends_135 ?_
            refine pw_icmp_ne 156 h d_X8_bends_136 (by decide) (fun c_136 => ?_) (fun c_136 => ?_)
            · skip
              have qn : ¬ i = n := fun q => c_136 (by rw [ev, q, eln])
              refine pw_lconst (x := 0) h d_X8_bends_156 (by decide) ?_
              refine pw_lsub h d_X8_bends_157 ?_
              refine pw_nmL (fun E2 eE2 => ?_)
              have hE2 : RI E2 (27720 * (rhoQ (xR' pl) (spR pl n) hg w F n) (i - 1)) := by rw [eE2]; exact (rho_M hi1 (sm_rt hP hS hi1 hin) hfi hen (sm_sd hP hS (Nat.zero_lt_succ n)) (sm_sd hP hS (Nat.lt_succ_self n))).2.2.2 q1 qn
              obtain ⟨hh3, hr3⟩ := hr_s hi1 hh hrt hE1 hE2
              refine pw_last h d_X8_bends_158 (by assumption) (by assumption) ?_
              obtain ⟨v6_159, e6_159⟩ : ∃ z : Int32, z = v + (1) := ⟨_, rfl⟩
              refine pw_iinc (lv' := [(6, .int v6_159), (0, .ref m), (1, .int v1_6), (2, .long v2_12), (4, .long v4_18)]) v6_159 h d_X8_bends_159 4 rfl e6_159.symm _ hml (by decide) rfl ?_
              refine pw_goto 30 h d_X8_bends_162 (by decide) ?_
              refine PW.perm [1, 2, 3, 4, 0] rfl ?_
              exact ih (i + 1) _ _ (by omega) (by omega) (by omega) (k_up e6_159 ev) (frBn_u (frBn_u fr2 (by omega)) (by omega)) hh3 hr3
            · skip
              have qn : i = n := (nI_eq (by omega) (by omega)).mp (ev.symm.trans (c_136.trans eln))
              refine pw_ldc2 h d_X8_bends_139 ck_RX8_213 ?_
              refine pw_aload_n h 0 d_X8_bends_142 rfl ?_
              refine pw_iload_n h 1 d_X8_bends_143 rfl ?_
              refine pw_iconst (x := 1) h d_X8_bends_144 (by decide) ?_
              refine pw_isub h d_X8_bends_145 ?_
              refine pw_callV (As := [.int _]) h d_X8_bends_146 mf_X8_side mi_X8_side ml_RX8_226 ⟨by decide, by decide, by decide⟩ (by assumption) rfl rfl (Nat.le_of_ble_eq_true rfl) trivial (c_X8_side (i := n) hM0 eln (by omega)) ?_
              refine PKk.ret ?_
              refine pw_lmul h d_X8_bends_149 ?_
              refine pw_lload h 3 d_X8_bends_150 rfl ?_
              refine pw_lmul h d_X8_bends_152 ?_
              refine pw_goto 157 h d_X8_bends_153 (by decide) ?_
              refine pw_lsub h d_X8_bends_157 ?_
              refine pw_nmL (fun E2 eE2 => ?_)
              have hE2 : RI E2 (27720 * (rhoQ (xR' pl) (spR pl n) hg w F n) (i - 1)) := by rw [eE2]; exact (rho_M hi1 (sm_rt hP hS hi1 hin) hfi hen (sm_sd hP hS (Nat.zero_lt_succ n)) (sm_sd hP hS (Nat.lt_succ_self n))).2.2.1 q1 qn
              obtain ⟨hh3, hr3⟩ := hr_s hi1 hh hrt hE1 hE2
              refine pw_last h d_X8_bends_158 (by assumption) (by assumption) ?_
              obtain ⟨v6_159, e6_159⟩ : ∃ z : Int32, z = v + (1) := ⟨_, rfl⟩
              refine pw_iinc (lv' := [(6, .int v6_159), (0, .ref m), (1, .int v1_6), (2, .long v2_12), (4, .long v4_18)]) v6_159 h d_X8_bends_159 4 rfl e6_159.symm _ hml (by decide) rfl ?_
              refine pw_goto 30 h d_X8_bends_162 (by decide) ?_
              refine PW.perm [1, 2, 3, 4, 0] rfl ?_
              exact ih (i + 1) _ _ (by omega) (by omega) (by omega) (k_up e6_159 ev) (frBn_u (frBn_u fr2 (by omega)) (by omega)) hh3 hr3
          · skip
            have q1 : i = 1 := (nI_eq (by omega) (by decide)).mp (ev.symm.trans c_112)
            refine pw_ldc2 h d_X8_bends_115 ck_RX8_213 ?_
            refine pw_aload_n h 0 d_X8_bends_118 rfl ?_
            refine pw_iconst (x := 0) h d_X8_bends_119 (by decide) ?_
            refine pw_callV (As := [.int _]) h d_X8_bends_120 mf_X8_side mi_X8_side ml_RX8_226 ⟨by decide, by decide, by decide⟩ (by assumption) rfl rfl (Nat.le_of_ble_eq_true rfl) trivial (c_X8_side (i := 0) hM0 rfl (by omega)) ?_
            refine PKk.ret ?_
            refine pw_lmul h d_X8_bends_123 ?_
            refine pw_lload_n h 2 d_X8_bends_124 rfl ?_
            refine pw_lmul h d_X8_bends_125 ?_
            refine pw_goto 130 h d_X8_bends_126 (by decide) ?_
            refine pw_lsub h d_X8_bends_130 ?_
            refine pw_iload h 4 d_X8_bends_131 rfl ?_
            refine pw_iload_n h 1 d_X8_bends_133 rfl ?_
            refine pw_iconst (x := 1) h d_X8_bends_134 (by decide) ?_
            refine pw_isub h d_X8_bends_135 ?_
            refine pw_icmp_ne 156 h d_X8_bends_136 (by decide) (fun c_136 => ?_) (fun c_136 => ?_)
            · skip
              have qn : ¬ i = n := fun q => c_136 (by rw [ev, q, eln])
              refine pw_lconst (x := 0) h d_X8_bends_156 (by decide) ?_
              refine pw_lsub h d_X8_bends_157 ?_
              refine pw_nmL (fun E2 eE2 => ?_)
              have hE2 : RI E2 (27720 * (rhoQ (xR' pl) (spR pl n) hg w F n) (i - 1)) := by rw [eE2]; exact (rho_M hi1 (sm_rt hP hS hi1 hin) hfi hen (sm_sd hP hS (Nat.zero_lt_succ n)) (sm_sd hP hS (Nat.lt_succ_self n))).2.1 q1 qn
              obtain ⟨hh3, hr3⟩ := hr_s hi1 hh hrt hE1 hE2
              refine pw_last h d_X8_bends_158 (by assumption) (by assumption) ?_
              obtain ⟨v6_159, e6_159⟩ : ∃ z : Int32, z = v + (1) := ⟨_, rfl⟩
              refine pw_iinc (lv' := [(6, .int v6_159), (0, .ref m), (1, .int v1_6), (2, .long v2_12), (4, .long v4_18)]) v6_159 h d_X8_bends_159 4 rfl e6_159.symm _ hml (by decide) rfl ?_
              refine pw_goto 30 h d_X8_bends_162 (by decide) ?_
              refine PW.perm [1, 2, 3, 4, 0] rfl ?_
              exact ih (i + 1) _ _ (by omega) (by omega) (by omega) (k_up e6_159 ev) (frBn_u (frBn_u fr2 (by omega)) (by omega)) hh3 hr3
            · skip
              have qn : i = n := (nI_eq (by omega) (by omega)).mp (ev.symm.trans (c_136.trans eln))
              refine pw_ldc2 h d_X8_bends_139 ck_RX8_213 ?_
              refine pw_aload_n h 0 d_X8_bends_142 rfl ?_
              refine pw_iload_n h 1 d_X8_bends_143 rfl ?_
              refine pw_iconst (x := 1) h d_X8_bends_144 (by decide) ?_
              refine pw_isub h d_X8_bends_145 ?_
              refine pw_callV (As := [.int _]) h d_X8_bends_146 mf_X8_side mi_X8_side ml_RX8_226 ⟨by decide, by decide, by decide⟩ (by assumption) rfl rfl (Nat.le_of_ble_eq_true rfl) trivial (c_X8_side (i := n) hM0 eln (by omega)) ?_
              refine PKk.ret ?_
              refine pw_lmul h d_X8_bends_149 ?_
              refine pw_lload h 3 d_X8_bends_150 rfl ?_
              refine pw_lmul h d_X8_bends_152 ?_
              refine pw_goto 157 h d_X8_bends_153 (by decide) ?_
              refine pw_lsub h d_X8_bends_157 ?_
              refine pw_nmL (fun E2 eE2 => ?_)
              have hE2 : RI E2 (27720 * (rhoQ (xR' pl) (spR pl n) hg w F n) (i - 1)) := by rw [eE2]; exact (rho_M hi1 (sm_rt hP hS hi1 hin) hfi hen (sm_sd hP hS (Nat.zero_lt_succ n)) (sm_sd hP hS (Nat.lt_succ_self n))).1 q1 qn
              obtain ⟨hh3, hr3⟩ := hr_s hi1 hh hrt hE1 hE2
              refine pw_last h d_X8_bends_158 (by assumption) (by assumption) ?_
              obtain ⟨v6_159, e6_159⟩ : ∃ z : Int32, z = v + (1) := ⟨_, rfl⟩
              refine pw_iinc (lv' := [(6, .int v6_159), (0, .ref m), (1, .int v1_6), (2, .long v2_12), (4, .long v4_18)]) v6_159 h d_X8_bends_159 4 rfl e6_159.symm _ hml (by decide) rfl ?_
              refine pw_goto 30 h d_X8_bends_162 (by decide) ?_
              refine PW.perm [1, 2, 3, 4, 0] rfl ?_
              exact ih (i + 1) _ _ (by omega) (by omega) (by omega) (k_up e6_159 ev) (frBn_u (frBn_u fr2 (by omega)) (by omega)) hh3 hr3
  refine PW.perm [4, 3, 2, 1, 0] rfl ?_
  exact cut_30 (n + 2) 1 _ _ (by omega) (by omega) (by omega) e6_28 (frBn_u frBn_0 (by omega)) hh1 hr1
