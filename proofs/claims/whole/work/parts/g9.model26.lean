set_option maxHeartbeats 4000000 in
set_option maxRecDepth 100000 in
theorem c_X8_plans {sh : Sh} {I : IM} {L : LM} {R : RM} {m : Nat} {A : LA} (hM : ModF sh R m) (hm : MLn I m A) (a : okA A) {lo hi : Int} (hlh : LHm I m lo hi) (h4 : aN A ≤ 4) (v : Int32) : PMet M_X8_plans [.ref m, .int v] sh I L R (plsP sh I L R m A lo hi v) := by
  refine PMet.of mf_X8_plans (Nat.le_of_ble_eq_true rfl) ?_
  intro X h hr hml
  have hml : (xc X).maxLocals = 12 := hml
  have h : PXok X RX8 cX8_plans 10 0 0 := h
  have hr : PXr X (some .int) "plans" _ 0 0 := hr
  have hM0 := hM
  obtain ⟨f0, f1, f2, f3, f4, f5, f6, f7, f8, f9, f10, f11, f12, f13, f14, f15, f16, f17, f18, f19, f20, f21, f22, f23, f24, f25, f26, f27, g1, g2, g3, g4, g5, g6, g7, g8, g9, g10, g11, g12, g13, g14, g15, g16, g17, g18, g19, g20, g21, g22, g23, g24, g25, g26, g27⟩ := hM
  have hn := hm.1
  have h625 := five_pow h4
  show PW X 0 [(0, .ref m), (1, .int v)] [] sh I L R 0 0
  refine pw_bipush (x := (-4)) h d_X8_plans_0 (by decide) ?_
  refine pw_nmI (fun v2_2 e2_2 => ?_)
  refine pw_istore_n (lv' := [(2, .int v2_2), (0, .ref m), (1, .int v)]) h d_X8_plans_2 rfl _ hml (by decide) rfl ?_
  refine pw_iconst (x := 0) h d_X8_plans_3 (by decide) ?_
  refine pw_nmI (fun v3_4 e3_4 => ?_)
  refine pw_istore_n (lv' := [(3, .int v3_4), (2, .int v2_2), (0, .ref m), (1, .int v)]) h d_X8_plans_4 rfl _ hml (by decide) rfl ?_
  refine pw_iconst (x := 1) h d_X8_plans_5 (by decide) ?_
  refine pw_nmI (fun v4_6 e4_6 => ?_)
  refine pw_istore (lv' := [(4, .int v4_6), (3, .int v3_4), (2, .int v2_2), (0, .ref m), (1, .int v)]) h d_X8_plans_6 _ hml (by decide) rfl ?_
  refine pw_iconst (x := 0) h d_X8_plans_8 (by decide) ?_
  refine pw_nmI (fun v5_9 e5_9 => ?_)
  refine pw_istore (lv' := [(5, .int v5_9), (4, .int v4_6), (3, .int v3_4), (2, .int v2_2), (0, .ref m), (1, .int v)]) h d_X8_plans_9 _ hml (by decide) rfl ?_
  have cut_11 : ∀ (N k : Nat) (fnd fsm al y : Int32), aN A < k + N → k ≤ aN A → y = nI k → al = nI (5 ^ k) → fnd = -4 → PW X 11 [(0, .ref m), (1, .int v), (2, .int fnd), (3, .int fsm), (4, .int al), (5, .int y)] [] sh I L R 0 0 := by
    intro N
    induction N with
    | zero => intros; omega
    | succ N ih =>
      intro k fnd fsm al y hN hk ey eal e2_2
      refine pw_iload h 5 d_X8_plans_11 rfl ?_
      refine pw_aload_n h 0 d_X8_plans_13 rfl ?_
      refine pw_getI 8 h d_X8_plans_14 fd_RX8_109 (by assumption) rfl ?_
      refine pw_icmp_ge 32 h d_X8_plans_17 (by decide) (fun c_17 => ?_) (fun c_17 => ?_)
      · skip
        have hge : aN A ≤ k := k_ge ey hn (by omega) (by omega) c_17
        have e9 : k = aN A := by omega
        rw [e9] at eal
        refine pw_iconst (x := 0) h d_X8_plans_32 (by decide) ?_
        refine pw_nmI (fun v5_33 e5_33 => ?_)
        refine pw_istore (lv' := [(5, .int v5_33), (0, .ref m), (1, .int v), (2, .int fnd), (3, .int fsm), (4, .int al)]) h d_X8_plans_33 _ hml (by decide) rfl ?_
        have cut_35 : ∀ (N t : Nat) (fnd fsm tn : Int32) (I2 : IM) (L2 : LM), 5 ^ aN A < t + N → t ≤ 5 ^ aN A → tn = nI t → frMP m I I2 → frML m L L2 → PlR (plI I2 m fnd fsm) (aN A) (plS A lo hi (selM v) t) → PW X 35 [(0, .ref m), (1, .int v), (2, .int fnd), (3, .int fsm), (4, .int al), (5, .int tn)] [] sh I2 L2 R 0 0 := by
          intro N
          induction N with
          | zero => intros; omega
          | succ N iht =>
            intro t fnd fsm tn I2 L2 hNt ht etn fM2 fL2 hpl2
            have hml2 := MLn_MP hm fM2
            have n2 := hml2.1
            refine pw_iload h 5 d_X8_plans_35 rfl ?_
            refine pw_iload h 4 d_X8_plans_37 rfl ?_
            refine pw_icmp_ge 277 h d_X8_plans_39 (by decide) (fun c_39 => ?_) (fun c_39 => ?_)
            · skip
              have hge : 5 ^ aN A ≤ t := k_ge etn eal (by omega) (by omega) c_39
              have e9 : t = 5 ^ aN A := by omega
              rw [e9] at hpl2
              refine pw_iconst (x := 0) h d_X8_plans_277 (by decide) ?_
              refine pw_nmI (fun v5_278 e5_278 => ?_)
              refine pw_istore (lv' := [(5, .int v5_278), (0, .ref m), (1, .int v), (2, .int fnd), (3, .int fsm), (4, .int al)]) h d_X8_plans_278 _ hml (by decide) rfl ?_
              have cut_280 : ∀ (N k : Nat) (y : Int32) (I6 : IM), 6 < k + N → k ≤ 6 → y = nI k → (∀ a j, a ≠ m + 22 → I6 a j = I2 a j) → (∀ j, j < k → I6 (m + 22) j = 0) → PW X 280 [(0, .ref m), (1, .int v), (2, .int fnd), (3, .int fsm), (4, .int al), (5, .int y)] [] sh I6 L2 R 0 0 := by
                intro N
                induction N with
                | zero => intros; omega
                | succ N ihz =>
                  intro k y I6 hNk hk ey f6 g6
                  refine pw_iload h 5 d_X8_plans_280 rfl ?_
                  refine pw_bipush (x := 6) h d_X8_plans_282 (by decide) ?_
                  refine pw_icmp_ge 301 h d_X8_plans_284 (by decide) (fun c_284 => ?_) (fun c_284 => ?_)
                  · skip
                    have hge := k_ge ey (n := 6) rfl (by omega) (by omega) c_284
                    refine pw_iload_n h 2 d_X8_plans_301 rfl ?_
                    refine pw_iret h hr d_X8_plans_302 rfl (by decide) (by decide) ?_
                    exact ⟨rfl, rfl, frMP_22 fM2 f6, fL2, fun j hj => g6 j (by omega), fnd, fsm, rfl, plI_fr hpl2 (fun k => f6 _ _ (by omega))⟩
                  · skip
                    have hk6 : k < 6 := k_lt ey (n := 6) rfl (by omega) (by omega) c_284
                    have hxk : px_ix y 6 k := k_ix ey hk6 (by decide)
                    refine pw_aload_n h 0 d_X8_plans_287 rfl ?_
                    refine pw_getR (j := (m + 22)) 8 h d_X8_plans_288 fd_RX8_82 (by assumption) rfl (by assumption) ?_
                    refine pw_iload h 5 d_X8_plans_291 rfl ?_
                    refine pw_iconst (x := 0) h d_X8_plans_293 (by decide) ?_
                    refine pw_iast h d_X8_plans_294 (by assumption) (by assumption) ?_
                    obtain ⟨v5_295, e5_295⟩ : ∃ z : Int32, z = y + (1) := ⟨_, rfl⟩
                    refine pw_iinc (lv' := [(5, .int v5_295), (0, .ref m), (1, .int v), (2, .int fnd), (3, .int fsm), (4, .int al)]) v5_295 h d_X8_plans_295 5 rfl e5_295.symm _ hml (by decide) rfl ?_
                    refine pw_goto 280 h d_X8_plans_298 (by decide) ?_
                    refine PW.perm [1, 2, 3, 4, 5, 0] rfl ?_
                    refine ihz (k + 1) _ _ (by omega) (by omega) (k_up e5_295 ey) (fun b j q9 => by rw [u2_n1 q9]; exact f6 b j q9) (fun j hj => ?_)
                    by_cases e9 : j = k
                    · rw [e9, u2_s]
                    · rw [u2_n2 e9]; exact g6 j (by omega)
              refine PW.perm [1, 2, 3, 4, 5, 0] rfl ?_
              exact cut_280 7 0 _ I2 (by omega) (Nat.zero_le _) e5_278 (fun _ _ _ => rfl) (fun j hj => absurd hj (Nat.not_lt_zero _))
            · skip
              have htl : t < 5 ^ aN A := k_lt etn eal (by omega) (by omega) c_39
              refine pw_iload h 5 d_X8_plans_42 rfl ?_
              refine pw_nmI (fun v6_44 e6_44 => ?_)
              refine pw_istore (lv' := [(6, .int v6_44), (0, .ref m), (1, .int v), (2, .int fnd), (3, .int fsm), (4, .int al), (5, .int tn)]) h d_X8_plans_44 _ hml (by decide) rfl ?_
              refine pw_iconst (x := 0) h d_X8_plans_46 (by decide) ?_
              refine pw_nmI (fun v7_47 e7_47 => ?_)
              refine pw_istore (lv' := [(7, .int v7_47), (6, .int v6_44), (0, .ref m), (1, .int v), (2, .int fnd), (3, .int fsm), (4, .int al), (5, .int tn)]) h d_X8_plans_47 _ hml (by decide) rfl ?_
              refine pw_iconst (x := 0) h d_X8_plans_49 (by decide) ?_
              refine pw_nmI (fun v8_50 e8_50 => ?_)
              refine pw_istore (lv' := [(8, .int v8_50), (7, .int v7_47), (6, .int v6_44), (0, .ref m), (1, .int v), (2, .int fnd), (3, .int fsm), (4, .int al), (5, .int tn)]) h d_X8_plans_50 _ hml (by decide) rfl ?_
              refine pw_iconst (x := 1) h d_X8_plans_52 (by decide) ?_
              refine pw_nmI (fun v9_53 e9_53 => ?_)
              refine pw_istore (lv' := [(9, .int v9_53), (8, .int v8_50), (7, .int v7_47), (6, .int v6_44), (0, .ref m), (1, .int v), (2, .int fnd), (3, .int fsm), (4, .int al), (5, .int tn)]) h d_X8_plans_53 _ hml (by decide) rfl ?_
              refine pw_aload_n h 4 d_X8_plans_55 rfl ?_
              refine pw_getI 8 h d_X8_plans_56 fd_RX8_109 (by assumption) rfl ?_
              refine pw_iconst (x := 1) h d_X8_plans_59 (by decide) ?_
              refine pw_isub h d_X8_plans_60 ?_
              refine pw_nmI (fun v10_61 e10_61 => ?_)
              refine pw_istore (lv' := [(10, .int v10_61), (9, .int v9_53), (8, .int v8_50), (7, .int v7_47), (6, .int v6_44), (0, .ref m), (1, .int v), (2, .int fnd), (3, .int fsm), (4, .int al), (5, .int tn)]) h d_X8_plans_61 _ hml (by decide) rfl ?_
              have cut_63 : ∀ (N d : Nat) (lf mvd sm gd b : Int32) (gb : Bool) (I3 : IM), aN A < d + N → d ≤ aN A → lf = nI (t / 5 ^ d) → mvd = nI (mnyR (aN A) t d) → sm = nI (smvR (aN A) t d) → gd = bI gb → b = nI (aN A - d) - 1 → plD m I2 I3 A t d gb → PW X 63 [(0, .ref m), (1, .int v), (2, .int fnd), (3, .int fsm), (4, .int al), (5, .int tn), (6, .int lf), (7, .int mvd), (8, .int sm), (9, .int gd), (10, .int b)] [] sh I3 L2 R 0 0 := by
                intro N
                induction N with
                | zero => intros; omega
                | succ N ihb =>
                  intro d lf mvd sm gd b gb I3 hNd hd elf emv esm egd eb hpd
                  refine pw_iload h 10 d_X8_plans_63 rfl ?_
                  refine pw_if_lt 186 h d_X8_plans_65 (by decide) (fun c_65 => ?_) (fun c_65 => ?_)
                  · skip
                    have e9 := (b_neg eb hd (by omega)).1 c_65
                    rw [e9] at emv esm hpd
                    obtain ⟨hmv3, hgd⟩ := plD_e hpd
                    have fM3 := frMP_22 fM2 hpd.1
                    have hml3 := MLn_MP hm fM3
                    have hpl3 := plI_fr hpl2 (I' := I3) (fun k => hpd.1 _ _ (by omega))
                    refine pw_iload_n h 2 d_X8_plans_186 rfl ?_
                    refine pw_if_lt 208 h d_X8_plans_187 (by decide) (fun c_187 => ?_) (fun c_187 => ?_)
                    · skip
                      have hbt : betT (aN A) (plS A lo hi (selM v) t) t := bet_0 h4 hpl3 (show plI I3 m fnd fsm 61 0 < 0 from c_187)
                      refine pw_iconst (x := 1) h d_X8_plans_208 (by decide) ?_
                      refine pw_goto 213 h d_X8_plans_209 (by decide) ?_
                      refine pw_nmI (fun v10_213 e10_213 => ?_)
                      refine pw_istore (lv' := [(10, .int v10_213), (0, .ref m), (1, .int v), (2, .int fnd), (3, .int fsm), (4, .int al), (5, .int tn), (6, .int lf), (7, .int mvd), (8, .int sm), (9, .int gd)]) h d_X8_plans_213 _ hml (by decide) rfl ?_
                      refine pw_iload h 10 d_X8_plans_215 rfl ?_
                      refine pw_if_eq 271 h d_X8_plans_217 (by decide) (fun c_217 => ?_) (fun c_217 => ?_)
                      · skip
                        have hngo : ¬ okM A (mvZ (aN A) t) := fun q9 => by have q8 := hgd.mpr q9; rw [egd, q8] at c_217; exact absurd c_217 (by decide)
                        obtain ⟨v5_271, e5_271⟩ : ∃ z : Int32, z = tn + (1) := ⟨_, rfl⟩
                        refine pw_iinc (lv' := [(5, .int v5_271), (10, .int v10_213), (0, .ref m), (1, .int v), (2, .int fnd), (3, .int fsm), (4, .int al), (6, .int lf), (7, .int mvd), (8, .int sm), (9, .int gd)]) v5_271 h d_X8_plans_271 6 rfl e5_271.symm _ hml (by decide) rfl ?_
                        refine pw_goto 35 h d_X8_plans_274 (by decide) ?_
                        refine PW.perm [2, 3, 4, 5, 6, 0] rfl ?_
                        exact iht (t + 1) _ _ _ _ _ (by omega) (by omega) (k_up e5_271 etn) fM3 fL2 (by rw [plS_f (fun q9 => hngo q9.1)]; exact hpl3)
                      · skip
                        have hgo : okM A (mvZ (aN A) t) := hgd.mp (by rw [egd, bI_1] at c_217; exact Bool.not_eq_false _ ▸ c_217)
                        refine pw_iload h 0 d_X8_plans_220 rfl ?_
                        refine pw_if_eq 271 h d_X8_plans_222 (by decide) (fun c_222 => ?_) (fun c_222 => ?_)
                        · exact absurd (e10_213.symm.trans c_222) (by decide)
                        · skip
                          refine pw_aload_n h 1 d_X8_plans_225 rfl ?_
                          refine pw_iload_n h 2 d_X8_plans_226 rfl ?_
                          refine pw_callV (As := [.int _]) h d_X8_plans_227 mf_X8_isFit mi_X8_isFit ml_RX8_331 ⟨by decide, by decide, by decide⟩ (by assumption) rfl rfl (Nat.le_of_ble_eq_true rfl) trivial (c_X8_isFit hM0 (ms_mv a hml3 hmv3 hgo) (okA_mv a hgo) (LHm_MP hlh fM3) v) ?_
                          intro ret4 sh4 I4 L4 R4 hp4
                          obtain ⟨e1, eR, f4, g4, bb, ebb, hbb⟩ := hp4
                          have e1 := e1.symm
                          have eR := eR.symm
                          subst e1
                          subst eR
                          subst ebb
                          refine ⟨rfl, ?_⟩
                          refine pw_if_eq 271 h d_X8_plans_230 (by decide) (fun c_230 => ?_) (fun c_230 => ?_)
                          · skip
                            rw [bI_1] at c_230
                            obtain ⟨v5_271, e5_271⟩ : ∃ z : Int32, z = tn + (1) := ⟨_, rfl⟩
                            refine pw_iinc (lv' := [(5, .int v5_271), (10, .int v10_213), (0, .ref m), (1, .int v), (2, .int fnd), (3, .int fsm), (4, .int al), (6, .int lf), (7, .int mvd), (8, .int sm), (9, .int gd)]) v5_271 h d_X8_plans_271 6 rfl e5_271.symm _ hml (by decide) rfl ?_
                            refine pw_goto 35 h d_X8_plans_274 (by decide) ?_
                            refine PW.perm [2, 3, 4, 5, 6, 0] rfl ?_
                            exact iht (t + 1) _ _ _ _ _ (by omega) (by omega) (k_up e5_271 etn) (frMP_t fM3 (frMP_M f4)) (frML_t fL2 g4) (by rw [plS_f (fun q9 => by have q8 := hbb.mpr q9.2.2; rw [c_230] at q8; cases q8)]; exact (plI_fr hpl3 (fun k => f4 _ _ (by omega) (by omega) (by omega) (by omega) (by omega) (by omega))))
                          · skip
                            rw [bI_1, Bool.not_eq_false] at c_230
                            refine pw_iload h 8 d_X8_plans_233 rfl ?_
                            refine pw_nmI (fun v2_235 e2_235 => ?_)
                            refine pw_istore_n (lv' := [(2, .int v2_235), (10, .int v10_213), (0, .ref m), (1, .int v), (3, .int fsm), (4, .int al), (5, .int tn), (6, .int lf), (7, .int mvd), (8, .int sm), (9, .int gd)]) h d_X8_plans_235 rfl _ hml (by decide) rfl ?_
                            refine pw_iload h 9 d_X8_plans_236 rfl ?_
                            refine pw_nmI (fun v3_238 e3_238 => ?_)
                            refine pw_istore_n (lv' := [(3, .int v3_238), (2, .int v2_235), (10, .int v10_213), (0, .ref m), (1, .int v), (4, .int al), (5, .int tn), (6, .int lf), (7, .int mvd), (8, .int sm), (9, .int gd)]) h d_X8_plans_238 rfl _ hml (by decide) rfl ?_
                            refine pw_iconst (x := 0) h d_X8_plans_239 (by decide) ?_
                            refine pw_nmI (fun v11_240 e11_240 => ?_)
                            refine pw_istore (lv' := [(11, .int v11_240), (3, .int v3_238), (2, .int v2_235), (10, .int v10_213), (0, .ref m), (1, .int v), (4, .int al), (5, .int tn), (6, .int lf), (7, .int mvd), (8, .int sm), (9, .int gd)]) h d_X8_plans_240 _ hml (by decide) rfl ?_
                            have cut_242 : ∀ (N k : Nat) (x : Int32) (I5 : IM), aN A < k + N → k ≤ aN A → x = nI k → (∀ a j, a ≠ m + 23 → I5 a j = I4 a j) → (∀ j, j < k → I5 (m + 23) j = I4 (m + 22) j) → PW X 242 [(0, .ref m), (1, .int v), (2, .int v2_235), (3, .int v3_238), (4, .int al), (5, .int tn), (11, .int x)] [] sh I5 L4 R 0 0 := by
                              intro N
                              induction N with
                              | zero => intros; omega
                              | succ N ihk =>
                                intro k x I5 hNk hk ex f5 g5
                                have n5 : I5 m 0 = nI (aN A) := by rw [f5 m 0 (by omega), f4 m 0 (by omega) (by omega) (by omega) (by omega) (by omega) (by omega)]; exact hml3.1
                                refine pw_iload h 6 d_X8_plans_242 rfl ?_
                                refine pw_aload_n h 0 d_X8_plans_244 rfl ?_
                                refine pw_getI 8 h d_X8_plans_245 fd_RX8_109 (by assumption) rfl ?_
                                refine pw_icmp_ge 271 h d_X8_plans_248 (by decide) (fun c_248 => ?_) (fun c_248 => ?_)
                                · skip
                                  have hge : aN A ≤ k := k_ge ex n5 (by omega) (by omega) c_248
                                  obtain ⟨v5_271, e5_271⟩ : ∃ z : Int32, z = tn + (1) := ⟨_, rfl⟩
                                  refine pw_iinc (lv' := [(5, .int v5_271), (0, .ref m), (1, .int v), (2, .int v2_235), (3, .int v3_238), (4, .int al), (11, .int x)]) v5_271 h d_X8_plans_271 5 rfl e5_271.symm _ hml (by decide) rfl ?_
                                  refine pw_goto 35 h d_X8_plans_274 (by decide) ?_
                                  refine PW.perm [1, 2, 3, 4, 5, 0] rfl ?_
                                  exact iht (t + 1) _ _ _ _ _ (by omega) (by omega) (k_up e5_271 etn) (frMP_23 (frMP_t fM3 (frMP_M f4)) f5) (frML_t fL2 g4) (by rw [plS_t ⟨hgo, hbt, hbb.mp c_230⟩]; exact plI_t (e2_235.trans emv) (e3_238.trans esm) (fun k hk => by rw [g5 k (by omega), f4 _ _ (by omega) (by omega) (by omega) (by omega) (by omega) (by omega)]; exact hmv3 k hk))
                                · skip
                                  have hkl : k < aN A := k_lt ex n5 (by omega) (by omega) c_248
                                  have hxk : px_ix x 6 k := k_ix ex (by omega) (by decide)
                                  refine pw_aload_n h 0 d_X8_plans_251 rfl ?_
                                  refine pw_getR (j := (m + 23)) 8 h d_X8_plans_252 fd_RX8_88 (by assumption) rfl (by assumption) ?_
                                  refine pw_iload h 6 d_X8_plans_255 rfl ?_
                                  refine pw_aload_n h 0 d_X8_plans_257 rfl ?_
                                  refine pw_getR (j := (m + 22)) 8 h d_X8_plans_258 fd_RX8_82 (by assumption) rfl (by assumption) ?_
                                  refine pw_iload h 6 d_X8_plans_261 rfl ?_
                                  refine pw_iald h d_X8_plans_263 (by assumption) (by assumption) ?_
                                  refine pw_iast h d_X8_plans_264 (by assumption) (by assumption) ?_
                                  obtain ⟨v11_265, e11_265⟩ : ∃ z : Int32, z = x + (1) := ⟨_, rfl⟩
                                  refine pw_iinc (lv' := [(11, .int v11_265), (0, .ref m), (1, .int v), (2, .int v2_235), (3, .int v3_238), (4, .int al), (5, .int tn)]) v11_265 h d_X8_plans_265 6 rfl e11_265.symm _ hml (by decide) rfl ?_
                                  refine pw_goto 242 h d_X8_plans_268 (by decide) ?_
                                  refine PW.perm [1, 2, 3, 4, 5, 6, 0] rfl ?_
                                  refine ihk (k + 1) _ _ (by omega) (by omega) (k_up e11_265 ex) (fun b j q9 => by rw [u2_n1 q9]; exact f5 b j q9) (fun j hj => ?_)
                                  by_cases e9 : j = k
                                  · rw [e9, u2_s, f5 _ _ (by omega)]
                                  · rw [u2_n2 e9]; exact g5 j (by omega)
                            refine PW.perm [4, 5, 2, 1, 6, 7, 0] rfl ?_
                            exact cut_242 (aN A + 1) 0 _ I4 (by omega) (Nat.zero_le _) e11_240 (fun _ _ _ => rfl) (fun j hj => absurd hj (Nat.not_lt_zero _))
                    · skip
                      have hb1 := bet_1 h4 hpl3 (show ¬ plI I3 m fnd fsm 61 0 < 0 from c_187) emv esm
                      refine pw_iload h 7 d_X8_plans_190 rfl ?_
                      refine pw_iload_n h 2 d_X8_plans_192 rfl ?_
                      refine pw_icmp_lt 208 h d_X8_plans_193 (by decide) (fun c_193 => ?_) (fun c_193 => ?_)
                      · skip
                        have hbt : betT (aN A) (plS A lo hi (selM v) t) t := hb1.1 c_193
                        refine pw_iconst (x := 1) h d_X8_plans_208 (by decide) ?_
                        refine pw_goto 213 h d_X8_plans_209 (by decide) ?_
                        refine pw_nmI (fun v10_213 e10_213 => ?_)
                        refine pw_istore (lv' := [(10, .int v10_213), (0, .ref m), (1, .int v), (2, .int fnd), (3, .int fsm), (4, .int al), (5, .int tn), (6, .int lf), (7, .int mvd), (8, .int sm), (9, .int gd)]) h d_X8_plans_213 _ hml (by decide) rfl ?_
                        refine pw_iload h 10 d_X8_plans_215 rfl ?_
                        refine pw_if_eq 271 h d_X8_plans_217 (by decide) (fun c_217 => ?_) (fun c_217 => ?_)
                        · skip
                          have hngo : ¬ okM A (mvZ (aN A) t) := fun q9 => by have q8 := hgd.mpr q9; rw [egd, q8] at c_217; exact absurd c_217 (by decide)
                          obtain ⟨v5_271, e5_271⟩ : ∃ z : Int32, z = tn + (1) := ⟨_, rfl⟩
                          refine pw_iinc (lv' := [(5, .int v5_271), (10, .int v10_213), (0, .ref m), (1, .int v), (2, .int fnd), (3, .int fsm), (4, .int al), (6, .int lf), (7, .int mvd), (8, .int sm), (9, .int gd)]) v5_271 h d_X8_plans_271 6 rfl e5_271.symm _ hml (by decide) rfl ?_
                          refine pw_goto 35 h d_X8_plans_274 (by decide) ?_
                          refine PW.perm [2, 3, 4, 5, 6, 0] rfl ?_
                          exact iht (t + 1) _ _ _ _ _ (by omega) (by omega) (k_up e5_271 etn) fM3 fL2 (by rw [plS_f (fun q9 => hngo q9.1)]; exact hpl3)
                        · skip
                          have hgo : okM A (mvZ (aN A) t) := hgd.mp (by rw [egd, bI_1] at c_217; exact Bool.not_eq_false _ ▸ c_217)
                          refine pw_iload h 0 d_X8_plans_220 rfl ?_
                          refine pw_if_eq 271 h d_X8_plans_222 (by decide) (fun c_222 => ?_) (fun c_222 => ?_)
                          · exact absurd (e10_213.symm.trans c_222) (by decide)
                          · skip
                            refine pw_aload_n h 1 d_X8_plans_225 rfl ?_
                            refine pw_iload_n h 2 d_X8_plans_226 rfl ?_
                            refine pw_callV (As := [.int _]) h d_X8_plans_227 mf_X8_isFit mi_X8_isFit ml_RX8_331 ⟨by decide, by decide, by decide⟩ (by assumption) rfl rfl (Nat.le_of_ble_eq_true rfl) trivial (c_X8_isFit hM0 (ms_mv a hml3 hmv3 hgo) (okA_mv a hgo) (LHm_MP hlh fM3) v) ?_
                            intro ret4 sh4 I4 L4 R4 hp4
                            obtain ⟨e1, eR, f4, g4, bb, ebb, hbb⟩ := hp4
                            have e1 := e1.symm
                            have eR := eR.symm
                            subst e1
                            subst eR
                            subst ebb
                            refine ⟨rfl, ?_⟩
                            refine pw_if_eq 271 h d_X8_plans_230 (by decide) (fun c_230 => ?_) (fun c_230 => ?_)
                            · skip
                              rw [bI_1] at c_230
                              obtain ⟨v5_271, e5_271⟩ : ∃ z : Int32, z = tn + (1) := ⟨_, rfl⟩
                              refine pw_iinc (lv' := [(5, .int v5_271), (10, .int v10_213), (0, .ref m), (1, .int v), (2, .int fnd), (3, .int fsm), (4, .int al), (6, .int lf), (7, .int mvd), (8, .int sm), (9, .int gd)]) v5_271 h d_X8_plans_271 6 rfl e5_271.symm _ hml (by decide) rfl ?_
                              refine pw_goto 35 h d_X8_plans_274 (by decide) ?_
                              refine PW.perm [2, 3, 4, 5, 6, 0] rfl ?_
                              exact iht (t + 1) _ _ _ _ _ (by omega) (by omega) (k_up e5_271 etn) (frMP_t fM3 (frMP_M f4)) (frML_t fL2 g4) (by rw [plS_f (fun q9 => by have q8 := hbb.mpr q9.2.2; rw [c_230] at q8; cases q8)]; exact (plI_fr hpl3 (fun k => f4 _ _ (by omega) (by omega) (by omega) (by omega) (by omega) (by omega))))
                            · skip
                              rw [bI_1, Bool.not_eq_false] at c_230
                              refine pw_iload h 8 d_X8_plans_233 rfl ?_
                              refine pw_nmI (fun v2_235 e2_235 => ?_)
                              refine pw_istore_n (lv' := [(2, .int v2_235), (10, .int v10_213), (0, .ref m), (1, .int v), (3, .int fsm), (4, .int al), (5, .int tn), (6, .int lf), (7, .int mvd), (8, .int sm), (9, .int gd)]) h d_X8_plans_235 rfl _ hml (by decide) rfl ?_
                              refine pw_iload h 9 d_X8_plans_236 rfl ?_
                              refine pw_nmI (fun v3_238 e3_238 => ?_)
                              refine pw_istore_n (lv' := [(3, .int v3_238), (2, .int v2_235), (10, .int v10_213), (0, .ref m), (1, .int v), (4, .int al), (5, .int tn), (6, .int lf), (7, .int mvd), (8, .int sm), (9, .int gd)]) h d_X8_plans_238 rfl _ hml (by decide) rfl ?_
                              refine pw_iconst (x := 0) h d_X8_plans_239 (by decide) ?_
                              refine pw_nmI (fun v11_240 e11_240 => ?_)
                              refine pw_istore (lv' := [(11, .int v11_240), (3, .int v3_238), (2, .int v2_235), (10, .int v10_213), (0, .ref m), (1, .int v), (4, .int al), (5, .int tn), (6, .int lf), (7, .int mvd), (8, .int sm), (9, .int gd)]) h d_X8_plans_240 _ hml (by decide) rfl ?_
                              have cut_242 : ∀ (N k : Nat) (x : Int32) (I5 : IM), aN A < k + N → k ≤ aN A → x = nI k → (∀ a j, a ≠ m + 23 → I5 a j = I4 a j) → (∀ j, j < k → I5 (m + 23) j = I4 (m + 22) j) → PW X 242 [(0, .ref m), (1, .int v), (2, .int v2_235), (3, .int v3_238), (4, .int al), (5, .int tn), (11, .int x)] [] sh I5 L4 R 0 0 := by
                                intro N
                                induction N with
                                | zero => intros; omega
                                | succ N ihk =>
                                  intro k x I5 hNk hk ex f5 g5
                                  have n5 : I5 m 0 = nI (aN A) := by rw [f5 m 0 (by omega), f4 m 0 (by omega) (by omega) (by omega) (by omega) (by omega) (by omega)]; exact hml3.1
                                  refine pw_iload h 6 d_X8_plans_242 rfl ?_
                                  refine pw_aload_n h 0 d_X8_plans_244 rfl ?_
                                  refine pw_getI 8 h d_X8_plans_245 fd_RX8_109 (by assumption) rfl ?_
                                  refine pw_icmp_ge 271 h d_X8_plans_248 (by decide) (fun c_248 => ?_) (fun c_248 => ?_)
                                  · skip
                                    have hge : aN A ≤ k := k_ge ex n5 (by omega) (by omega) c_248
                                    obtain ⟨v5_271, e5_271⟩ : ∃ z : Int32, z = tn + (1) := ⟨_, rfl⟩
                                    refine pw_iinc (lv' := [(5, .int v5_271), (0, .ref m), (1, .int v), (2, .int v2_235), (3, .int v3_238), (4, .int al), (11, .int x)]) v5_271 h d_X8_plans_271 5 rfl e5_271.symm _ hml (by decide) rfl ?_
                                    refine pw_goto 35 h d_X8_plans_274 (by decide) ?_
                                    refine PW.perm [1, 2, 3, 4, 5, 0] rfl ?_
                                    exact iht (t + 1) _ _ _ _ _ (by omega) (by omega) (k_up e5_271 etn) (frMP_23 (frMP_t fM3 (frMP_M f4)) f5) (frML_t fL2 g4) (by rw [plS_t ⟨hgo, hbt, hbb.mp c_230⟩]; exact plI_t (e2_235.trans emv) (e3_238.trans esm) (fun k hk => by rw [g5 k (by omega), f4 _ _ (by omega) (by omega) (by omega) (by omega) (by omega) (by omega)]; exact hmv3 k hk))
                                  · skip
                                    have hkl : k < aN A := k_lt ex n5 (by omega) (by omega) c_248
                                    have hxk : px_ix x 6 k := k_ix ex (by omega) (by decide)
                                    refine pw_aload_n h 0 d_X8_plans_251 rfl ?_
                                    refine pw_getR (j := (m + 23)) 8 h d_X8_plans_252 fd_RX8_88 (by assumption) rfl (by assumption) ?_
                                    refine pw_iload h 6 d_X8_plans_255 rfl ?_
                                    refine pw_aload_n h 0 d_X8_plans_257 rfl ?_
                                    refine pw_getR (j := (m + 22)) 8 h d_X8_plans_258 fd_RX8_82 (by assumption) rfl (by assumption) ?_
                                    refine pw_iload h 6 d_X8_plans_261 rfl ?_
                                    refine pw_iald h d_X8_plans_263 (by assumption) (by assumption) ?_
                                    refine pw_iast h d_X8_plans_264 (by assumption) (by assumption) ?_
                                    obtain ⟨v11_265, e11_265⟩ : ∃ z : Int32, z = x + (1) := ⟨_, rfl⟩
                                    refine pw_iinc (lv' := [(11, .int v11_265), (0, .ref m), (1, .int v), (2, .int v2_235), (3, .int v3_238), (4, .int al), (5, .int tn)]) v11_265 h d_X8_plans_265 6 rfl e11_265.symm _ hml (by decide) rfl ?_
                                    refine pw_goto 242 h d_X8_plans_268 (by decide) ?_
                                    refine PW.perm [1, 2, 3, 4, 5, 6, 0] rfl ?_
                                    refine ihk (k + 1) _ _ (by omega) (by omega) (k_up e11_265 ex) (fun b j q9 => by rw [u2_n1 q9]; exact f5 b j q9) (fun j hj => ?_)
                                    by_cases e9 : j = k
                                    · rw [e9, u2_s, f5 _ _ (by omega)]
                                    · rw [u2_n2 e9]; exact g5 j (by omega)
                              refine PW.perm [4, 5, 2, 1, 6, 7, 0] rfl ?_
                              exact cut_242 (aN A + 1) 0 _ I4 (by omega) (Nat.zero_le _) e11_240 (fun _ _ _ => rfl) (fun j hj => absurd hj (Nat.not_lt_zero _))
                      · skip
                        refine pw_iload h 7 d_X8_plans_196 rfl ?_
                        refine pw_iload_n h 2 d_X8_plans_198 rfl ?_
                        refine pw_icmp_ne 212 h d_X8_plans_199 (by decide) (fun c_199 => ?_) (fun c_199 => ?_)
                        · skip
                          have hbt : ¬ betT (aN A) (plS A lo hi (selM v) t) t := hb1.2.1 c_193 c_199
                          refine pw_iconst (x := 0) h d_X8_plans_212 (by decide) ?_
                          refine pw_nmI (fun v10_213 e10_213 => ?_)
                          refine pw_istore (lv' := [(10, .int v10_213), (0, .ref m), (1, .int v), (2, .int fnd), (3, .int fsm), (4, .int al), (5, .int tn), (6, .int lf), (7, .int mvd), (8, .int sm), (9, .int gd)]) h d_X8_plans_213 _ hml (by decide) rfl ?_
                          refine pw_iload h 10 d_X8_plans_215 rfl ?_
                          refine pw_if_eq 271 h d_X8_plans_217 (by decide) (fun c_217 => ?_) (fun c_217 => ?_)
                          · skip
                            have hngo : ¬ okM A (mvZ (aN A) t) := fun q9 => by have q8 := hgd.mpr q9; rw [egd, q8] at c_217; exact absurd c_217 (by decide)
                            obtain ⟨v5_271, e5_271⟩ : ∃ z : Int32, z = tn + (1) := ⟨_, rfl⟩
                            refine pw_iinc (lv' := [(5, .int v5_271), (10, .int v10_213), (0, .ref m), (1, .int v), (2, .int fnd), (3, .int fsm), (4, .int al), (6, .int lf), (7, .int mvd), (8, .int sm), (9, .int gd)]) v5_271 h d_X8_plans_271 6 rfl e5_271.symm _ hml (by decide) rfl ?_
                            refine pw_goto 35 h d_X8_plans_274 (by decide) ?_
                            refine PW.perm [2, 3, 4, 5, 6, 0] rfl ?_
                            exact iht (t + 1) _ _ _ _ _ (by omega) (by omega) (k_up e5_271 etn) fM3 fL2 (by rw [plS_f (fun q9 => hngo q9.1)]; exact hpl3)
                          · skip
                            have hgo : okM A (mvZ (aN A) t) := hgd.mp (by rw [egd, bI_1] at c_217; exact Bool.not_eq_false _ ▸ c_217)
                            refine pw_iload h 0 d_X8_plans_220 rfl ?_
                            refine pw_if_eq 271 h d_X8_plans_222 (by decide) (fun c_222 => ?_) (fun c_222 => ?_)
                            · skip
                              obtain ⟨v5_271, e5_271⟩ : ∃ z : Int32, z = tn + (1) := ⟨_, rfl⟩
                              refine pw_iinc (lv' := [(5, .int v5_271), (10, .int v10_213), (0, .ref m), (1, .int v), (2, .int fnd), (3, .int fsm), (4, .int al), (6, .int lf), (7, .int mvd), (8, .int sm), (9, .int gd)]) v5_271 h d_X8_plans_271 6 rfl e5_271.symm _ hml (by decide) rfl ?_
                              refine pw_goto 35 h d_X8_plans_274 (by decide) ?_
                              refine PW.perm [2, 3, 4, 5, 6, 0] rfl ?_
                              exact iht (t + 1) _ _ _ _ _ (by omega) (by omega) (k_up e5_271 etn) fM3 fL2 (by rw [plS_f (fun q9 => hbt q9.2.1)]; exact hpl3)
                            · exact absurd e10_213 c_222
                        · skip
                          refine pw_iload h 8 d_X8_plans_202 rfl ?_
                          refine pw_iload_n h 3 d_X8_plans_204 rfl ?_
                          refine pw_icmp_ge 212 h d_X8_plans_205 (by decide) (fun c_205 => ?_) (fun c_205 => ?_)
                          · skip
                            have hbt : ¬ betT (aN A) (plS A lo hi (selM v) t) t := (hb1.2.2 c_199).2 (Int32.not_lt.mpr c_205)
                            refine pw_iconst (x := 0) h d_X8_plans_212 (by decide) ?_
                            refine pw_nmI (fun v10_213 e10_213 => ?_)
                            refine pw_istore (lv' := [(10, .int v10_213), (0, .ref m), (1, .int v), (2, .int fnd), (3, .int fsm), (4, .int al), (5, .int tn), (6, .int lf), (7, .int mvd), (8, .int sm), (9, .int gd)]) h d_X8_plans_213 _ hml (by decide) rfl ?_
                            refine pw_iload h 10 d_X8_plans_215 rfl ?_
                            refine pw_if_eq 271 h d_X8_plans_217 (by decide) (fun c_217 => ?_) (fun c_217 => ?_)
                            · skip
                              have hngo : ¬ okM A (mvZ (aN A) t) := fun q9 => by have q8 := hgd.mpr q9; rw [egd, q8] at c_217; exact absurd c_217 (by decide)
                              obtain ⟨v5_271, e5_271⟩ : ∃ z : Int32, z = tn + (1) := ⟨_, rfl⟩
                              refine pw_iinc (lv' := [(5, .int v5_271), (10, .int v10_213), (0, .ref m), (1, .int v), (2, .int fnd), (3, .int fsm), (4, .int al), (6, .int lf), (7, .int mvd), (8, .int sm), (9, .int gd)]) v5_271 h d_X8_plans_271 6 rfl e5_271.symm _ hml (by decide) rfl ?_
                              refine pw_goto 35 h d_X8_plans_274 (by decide) ?_
                              refine PW.perm [2, 3, 4, 5, 6, 0] rfl ?_
                              exact iht (t + 1) _ _ _ _ _ (by omega) (by omega) (k_up e5_271 etn) fM3 fL2 (by rw [plS_f (fun q9 => hngo q9.1)]; exact hpl3)
                            · skip
                              have hgo : okM A (mvZ (aN A) t) := hgd.mp (by rw [egd, bI_1] at c_217; exact Bool.not_eq_false _ ▸ c_217)
                              refine pw_iload h 0 d_X8_plans_220 rfl ?_
                              refine pw_if_eq 271 h d_X8_plans_222 (by decide) (fun c_222 => ?_) (fun c_222 => ?_)
                              · skip
                                obtain ⟨v5_271, e5_271⟩ : ∃ z : Int32, z = tn + (1) := ⟨_, rfl⟩
                                refine pw_iinc (lv' := [(5, .int v5_271), (10, .int v10_213), (0, .ref m), (1, .int v), (2, .int fnd), (3, .int fsm), (4, .int al), (6, .int lf), (7, .int mvd), (8, .int sm), (9, .int gd)]) v5_271 h d_X8_plans_271 6 rfl e5_271.symm _ hml (by decide) rfl ?_
                                refine pw_goto 35 h d_X8_plans_274 (by decide) ?_
                                refine PW.perm [2, 3, 4, 5, 6, 0] rfl ?_
                                exact iht (t + 1) _ _ _ _ _ (by omega) (by omega) (k_up e5_271 etn) fM3 fL2 (by rw [plS_f (fun q9 => hbt q9.2.1)]; exact hpl3)
                              · exact absurd e10_213 c_222
                          · skip
                            have hbt : betT (aN A) (plS A lo hi (selM v) t) t := (hb1.2.2 c_199).1 (Int32.not_le.mp c_205)
                            refine pw_iconst (x := 1) h d_X8_plans_208 (by decide) ?_
                            refine pw_goto 213 h d_X8_plans_209 (by decide) ?_
                            refine pw_nmI (fun v10_213 e10_213 => ?_)
                            refine pw_istore (lv' := [(10, .int v10_213), (0, .ref m), (1, .int v), (2, .int fnd), (3, .int fsm), (4, .int al), (5, .int tn), (6, .int lf), (7, .int mvd), (8, .int sm), (9, .int gd)]) h d_X8_plans_213 _ hml (by decide) rfl ?_
                            refine pw_iload h 10 d_X8_plans_215 rfl ?_
                            refine pw_if_eq 271 h d_X8_plans_217 (by decide) (fun c_217 => ?_) (fun c_217 => ?_)
                            · skip
                              have hngo : ¬ okM A (mvZ (aN A) t) := fun q9 => by have q8 := hgd.mpr q9; rw [egd, q8] at c_217; exact absurd c_217 (by decide)
                              obtain ⟨v5_271, e5_271⟩ : ∃ z : Int32, z = tn + (1) := ⟨_, rfl⟩
                              refine pw_iinc (lv' := [(5, .int v5_271), (10, .int v10_213), (0, .ref m), (1, .int v), (2, .int fnd), (3, .int fsm), (4, .int al), (6, .int lf), (7, .int mvd), (8, .int sm), (9, .int gd)]) v5_271 h d_X8_plans_271 6 rfl e5_271.symm _ hml (by decide) rfl ?_
                              refine pw_goto 35 h d_X8_plans_274 (by decide) ?_
                              refine PW.perm [2, 3, 4, 5, 6, 0] rfl ?_
                              exact iht (t + 1) _ _ _ _ _ (by omega) (by omega) (k_up e5_271 etn) fM3 fL2 (by rw [plS_f (fun q9 => hngo q9.1)]; exact hpl3)
                            · skip
                              have hgo : okM A (mvZ (aN A) t) := hgd.mp (by rw [egd, bI_1] at c_217; exact Bool.not_eq_false _ ▸ c_217)
                              refine pw_iload h 0 d_X8_plans_220 rfl ?_
                              refine pw_if_eq 271 h d_X8_plans_222 (by decide) (fun c_222 => ?_) (fun c_222 => ?_)
                              · exact absurd (e10_213.symm.trans c_222) (by decide)
                              · skip
                                refine pw_aload_n h 1 d_X8_plans_225 rfl ?_
                                refine pw_iload_n h 2 d_X8_plans_226 rfl ?_
                                refine pw_callV (As := [.int _]) h d_X8_plans_227 mf_X8_isFit mi_X8_isFit ml_RX8_331 ⟨by decide, by decide, by decide⟩ (by assumption) rfl rfl (Nat.le_of_ble_eq_true rfl) trivial (c_X8_isFit hM0 (ms_mv a hml3 hmv3 hgo) (okA_mv a hgo) (LHm_MP hlh fM3) v) ?_
                                intro ret4 sh4 I4 L4 R4 hp4
                                obtain ⟨e1, eR, f4, g4, bb, ebb, hbb⟩ := hp4
                                have e1 := e1.symm
                                have eR := eR.symm
                                subst e1
                                subst eR
                                subst ebb
                                refine ⟨rfl, ?_⟩
                                refine pw_if_eq 271 h d_X8_plans_230 (by decide) (fun c_230 => ?_) (fun c_230 => ?_)
                                · skip
                                  rw [bI_1] at c_230
                                  obtain ⟨v5_271, e5_271⟩ : ∃ z : Int32, z = tn + (1) := ⟨_, rfl⟩
                                  refine pw_iinc (lv' := [(5, .int v5_271), (10, .int v10_213), (0, .ref m), (1, .int v), (2, .int fnd), (3, .int fsm), (4, .int al), (6, .int lf), (7, .int mvd), (8, .int sm), (9, .int gd)]) v5_271 h d_X8_plans_271 6 rfl e5_271.symm _ hml (by decide) rfl ?_
                                  refine pw_goto 35 h d_X8_plans_274 (by decide) ?_
                                  refine PW.perm [2, 3, 4, 5, 6, 0] rfl ?_
                                  exact iht (t + 1) _ _ _ _ _ (by omega) (by omega) (k_up e5_271 etn) (frMP_t fM3 (frMP_M f4)) (frML_t fL2 g4) (by rw [plS_f (fun q9 => by have q8 := hbb.mpr q9.2.2; rw [c_230] at q8; cases q8)]; exact (plI_fr hpl3 (fun k => f4 _ _ (by omega) (by omega) (by omega) (by omega) (by omega) (by omega))))
                                · skip
                                  rw [bI_1, Bool.not_eq_false] at c_230
                                  refine pw_iload h 8 d_X8_plans_233 rfl ?_
                                  refine pw_nmI (fun v2_235 e2_235 => ?_)
                                  refine pw_istore_n (lv' := [(2, .int v2_235), (10, .int v10_213), (0, .ref m), (1, .int v), (3, .int fsm), (4, .int al), (5, .int tn), (6, .int lf), (7, .int mvd), (8, .int sm), (9, .int gd)]) h d_X8_plans_235 rfl _ hml (by decide) rfl ?_
                                  refine pw_iload h 9 d_X8_plans_236 rfl ?_
                                  refine pw_nmI (fun v3_238 e3_238 => ?_)
                                  refine pw_istore_n (lv' := [(3, .int v3_238), (2, .int v2_235), (10, .int v10_213), (0, .ref m), (1, .int v), (4, .int al), (5, .int tn), (6, .int lf), (7, .int mvd), (8, .int sm), (9, .int gd)]) h d_X8_plans_238 rfl _ hml (by decide) rfl ?_
                                  refine pw_iconst (x := 0) h d_X8_plans_239 (by decide) ?_
                                  refine pw_nmI (fun v11_240 e11_240 => ?_)
                                  refine pw_istore (lv' := [(11, .int v11_240), (3, .int v3_238), (2, .int v2_235), (10, .int v10_213), (0, .ref m), (1, .int v), (4, .int al), (5, .int tn), (6, .int lf), (7, .int mvd), (8, .int sm), (9, .int gd)]) h d_X8_plans_240 _ hml (by decide) rfl ?_
                                  have cut_242 : ∀ (N k : Nat) (x : Int32) (I5 : IM), aN A < k + N → k ≤ aN A → x = nI k → (∀ a j, a ≠ m + 23 → I5 a j = I4 a j) → (∀ j, j < k → I5 (m + 23) j = I4 (m + 22) j) → PW X 242 [(0, .ref m), (1, .int v), (2, .int v2_235), (3, .int v3_238), (4, .int al), (5, .int tn), (11, .int x)] [] sh I5 L4 R 0 0 := by
                                    intro N
                                    induction N with
                                    | zero => intros; omega
                                    | succ N ihk =>
                                      intro k x I5 hNk hk ex f5 g5
                                      have n5 : I5 m 0 = nI (aN A) := by rw [f5 m 0 (by omega), f4 m 0 (by omega) (by omega) (by omega) (by omega) (by omega) (by omega)]; exact hml3.1
                                      refine pw_iload h 6 d_X8_plans_242 rfl ?_
                                      refine pw_aload_n h 0 d_X8_plans_244 rfl ?_
                                      refine pw_getI 8 h d_X8_plans_245 fd_RX8_109 (by assumption) rfl ?_
                                      refine pw_icmp_ge 271 h d_X8_plans_248 (by decide) (fun c_248 => ?_) (fun c_248 => ?_)
                                      · skip
                                        have hge : aN A ≤ k := k_ge ex n5 (by omega) (by omega) c_248
                                        obtain ⟨v5_271, e5_271⟩ : ∃ z : Int32, z = tn + (1) := ⟨_, rfl⟩
                                        refine pw_iinc (lv' := [(5, .int v5_271), (0, .ref m), (1, .int v), (2, .int v2_235), (3, .int v3_238), (4, .int al), (11, .int x)]) v5_271 h d_X8_plans_271 5 rfl e5_271.symm _ hml (by decide) rfl ?_
                                        refine pw_goto 35 h d_X8_plans_274 (by decide) ?_
                                        refine PW.perm [1, 2, 3, 4, 5, 0] rfl ?_
                                        exact iht (t + 1) _ _ _ _ _ (by omega) (by omega) (k_up e5_271 etn) (frMP_23 (frMP_t fM3 (frMP_M f4)) f5) (frML_t fL2 g4) (by rw [plS_t ⟨hgo, hbt, hbb.mp c_230⟩]; exact plI_t (e2_235.trans emv) (e3_238.trans esm) (fun k hk => by rw [g5 k (by omega), f4 _ _ (by omega) (by omega) (by omega) (by omega) (by omega) (by omega)]; exact hmv3 k hk))
                                      · skip
                                        have hkl : k < aN A := k_lt ex n5 (by omega) (by omega) c_248
                                        have hxk : px_ix x 6 k := k_ix ex (by omega) (by decide)
                                        refine pw_aload_n h 0 d_X8_plans_251 rfl ?_
                                        refine pw_getR (j := (m + 23)) 8 h d_X8_plans_252 fd_RX8_88 (by assumption) rfl (by assumption) ?_
                                        refine pw_iload h 6 d_X8_plans_255 rfl ?_
                                        refine pw_aload_n h 0 d_X8_plans_257 rfl ?_
                                        refine pw_getR (j := (m + 22)) 8 h d_X8_plans_258 fd_RX8_82 (by assumption) rfl (by assumption) ?_
                                        refine pw_iload h 6 d_X8_plans_261 rfl ?_
                                        refine pw_iald h d_X8_plans_263 (by assumption) (by assumption) ?_
                                        refine pw_iast h d_X8_plans_264 (by assumption) (by assumption) ?_
                                        obtain ⟨v11_265, e11_265⟩ : ∃ z : Int32, z = x + (1) := ⟨_, rfl⟩
                                        refine pw_iinc (lv' := [(11, .int v11_265), (0, .ref m), (1, .int v), (2, .int v2_235), (3, .int v3_238), (4, .int al), (5, .int tn)]) v11_265 h d_X8_plans_265 6 rfl e11_265.symm _ hml (by decide) rfl ?_
                                        refine pw_goto 242 h d_X8_plans_268 (by decide) ?_
                                        refine PW.perm [1, 2, 3, 4, 5, 6, 0] rfl ?_
                                        refine ihk (k + 1) _ _ (by omega) (by omega) (k_up e11_265 ex) (fun b j q9 => by rw [u2_n1 q9]; exact f5 b j q9) (fun j hj => ?_)
                                        by_cases e9 : j = k
                                        · rw [e9, u2_s, f5 _ _ (by omega)]
                                        · rw [u2_n2 e9]; exact g5 j (by omega)
                                  refine PW.perm [4, 5, 2, 1, 6, 7, 0] rfl ?_
                                  exact cut_242 (aN A + 1) 0 _ I4 (by omega) (Nat.zero_le _) e11_240 (fun _ _ _ => rfl) (fun j hj => absurd hj (Nat.not_lt_zero _))
                  · skip
                    obtain ⟨hdn, eb2⟩ := (b_neg eb hd (by omega)).2 c_65
                    have hxb : px_ix b 6 (aN A - 1 - d) := k_ix eb2 (by omega) (by decide)
                    have htd : t / 5 ^ d < 2 ^ 31 := Nat.lt_of_le_of_lt (Nat.div_le_self _ _) (by omega)
                    have hdg := mv_dig elf htd
                    rw [← mvZ_d hdn, div_pow5] at hdg
                    refine pw_aload_n h 0 d_X8_plans_68 rfl ?_
                    refine pw_getR (j := (m + 22)) 8 h d_X8_plans_69 fd_RX8_82 (by assumption) rfl (by assumption) ?_
                    refine pw_iload h 10 d_X8_plans_72 rfl ?_
                    refine pw_iload h 6 d_X8_plans_74 rfl ?_
                    refine pw_iconst (x := 5) h d_X8_plans_76 (by decide) ?_
                    refine pw_irem h d_X8_plans_77 (by decide) ?_
                    refine pw_iconst (x := 2) h d_X8_plans_78 (by decide) ?_
                    refine pw_isub h d_X8_plans_79 ?_
                    refine pw_iast h d_X8_plans_80 (by assumption) (by assumption) ?_
                    obtain ⟨x, ex⟩ : ∃ x : Int32, x = lf - lf / 5 * 5 - 2 := ⟨_, rfl⟩
                    have hX : x.toInt = mvZ (aN A) t (aN A - 1 - d) := by rw [ex]; exact hdg.1
                    obtain ⟨I4, eI4⟩ : ∃ I4, I4 = u2 I3 (m + 22) (aN A - 1 - d) x := ⟨_, rfl⟩
                    refine pw_mem (I' := I4) (by rw [eI4, ex]) rfl rfl ?_
                    have x4 : I4 (m + 22) (aN A - 1 - d) = x := by rw [eI4, u2_s]
                    have o4 : (I4 (m + 2) (aN A - 1 - d)).toInt = aO A (aN A - 1 - d) := by rw [eI4, u2_n1 (by omega), hpd.1 _ _ (by omega)]; exact hml2.2.2.1 _ (by omega)
                    have mv1 := mny_s (c := 0) hX emv
                    have sm1 := smv_s hX esm
                    have b1 := a.2.2.1 (aN A - 1 - d) (by omega)
                    have b2 := mvZ_in (n := aN A) (t := t) (k := (aN A - 1 - d))
                    have hin := in_50 (x := I4 (m + 2) (aN A - 1 - d)) (y := I4 (m + 22) (aN A - 1 - d)) (b := mvZ (aN A) t (aN A - 1 - d)) o4 (by rw [x4]; exact hX) (by omega) (by omega)
                    refine pw_iload h 6 d_X8_plans_81 rfl ?_
                    refine pw_iconst (x := 5) h d_X8_plans_83 (by decide) ?_
                    refine pw_idiv h d_X8_plans_84 (by decide) ?_
                    refine pw_nmI (fun v6_85 e6_85 => ?_)
                    refine pw_istore (lv' := [(6, .int v6_85), (0, .ref m), (1, .int v), (2, .int fnd), (3, .int fsm), (4, .int al), (5, .int tn), (7, .int mvd), (8, .int sm), (9, .int gd), (10, .int b)]) h d_X8_plans_85 _ hml (by decide) rfl ?_
                    refine pw_iload h 7 d_X8_plans_87 rfl ?_
                    refine pw_aload_n h 1 d_X8_plans_89 rfl ?_
                    refine pw_getR (j := (m + 22)) 8 h d_X8_plans_90 fd_RX8_82 (by assumption) rfl (by assumption) ?_
                    refine pw_iload h 10 d_X8_plans_93 rfl ?_
                    refine pw_iald h d_X8_plans_95 (by assumption) (by assumption) ?_
                    refine pw_if_eq 103 h d_X8_plans_96 (by decide) (fun c_96 => ?_) (fun c_96 => ?_)
                    · skip
                      have c96 : x = 0 := by rw [← x4]; exact c_96
                      refine pw_iconst (x := 0) h d_X8_plans_103 (by decide) ?_
                      refine pw_iadd h d_X8_plans_104 ?_
                      refine pw_nmI (fun v7_105 e7_105 => ?_)
                      refine pw_istore (lv' := [(7, .int v7_105), (6, .int v6_85), (0, .ref m), (1, .int v), (2, .int fnd), (3, .int fsm), (4, .int al), (5, .int tn), (8, .int sm), (9, .int gd), (10, .int b)]) h d_X8_plans_105 _ hml (by decide) rfl ?_
                      refine pw_iload h 8 d_X8_plans_107 rfl ?_
                      refine pw_aload_n h 2 d_X8_plans_109 rfl ?_
                      refine pw_getR (j := (m + 22)) 8 h d_X8_plans_110 fd_RX8_82 (by assumption) rfl (by assumption) ?_
                      refine pw_iload h 10 d_X8_plans_113 rfl ?_
                      refine pw_iald h d_X8_plans_115 (by assumption) (by assumption) ?_
                      refine pw_if_ge 130 h d_X8_plans_116 (by decide) (fun c_116 => ?_) (fun c_116 => ?_)
                      · skip
                        have c116 : 0 ≤ x := by rw [← x4]; exact c_116
                        skip
                        refine pw_aload_n h 2 d_X8_plans_130 rfl ?_
                        refine pw_getR (j := (m + 22)) 8 h d_X8_plans_131 fd_RX8_82 (by assumption) rfl (by assumption) ?_
                        refine pw_iload h 10 d_X8_plans_134 rfl ?_
                        refine pw_iald h d_X8_plans_136 (by assumption) (by assumption) ?_
                        refine pw_iadd h d_X8_plans_137 ?_
                        refine pw_nmI (fun v8_138 e8_138 => ?_)
                        refine pw_istore (lv' := [(8, .int v8_138), (7, .int v7_105), (6, .int v6_85), (0, .ref m), (1, .int v), (2, .int fnd), (3, .int fsm), (4, .int al), (5, .int tn), (9, .int gd), (10, .int b)]) h d_X8_plans_138 _ hml (by decide) rfl ?_
                        rw [x4] at e8_138
                        refine pw_iload h 9 d_X8_plans_140 rfl ?_
                        refine pw_if_eq 177 h d_X8_plans_142 (by decide) (fun c_142 => ?_) (fun c_142 => ?_)
                        · skip
                          have hg0 : gb = false := by rw [egd] at c_142; exact bI_1.mp c_142
                          refine pw_iconst (x := 0) h d_X8_plans_177 (by decide) ?_
                          refine pw_nmI (fun v9_178 e9_178 => ?_)
                          refine pw_istore (lv' := [(9, .int v9_178), (8, .int v8_138), (7, .int v7_105), (6, .int v6_85), (0, .ref m), (1, .int v), (2, .int fnd), (3, .int fsm), (4, .int al), (5, .int tn), (10, .int b)]) h d_X8_plans_178 _ hml (by decide) rfl ?_
                          obtain ⟨v10_180, e10_180⟩ : ∃ z : Int32, z = b + (-1) := ⟨_, rfl⟩
                          refine pw_iinc (lv' := [(10, .int v10_180), (9, .int v9_178), (8, .int v8_138), (7, .int v7_105), (6, .int v6_85), (0, .ref m), (1, .int v), (2, .int fnd), (3, .int fsm), (4, .int al), (5, .int tn)]) v10_180 h d_X8_plans_180 10 rfl e10_180.symm _ hml (by decide) rfl ?_
                          refine pw_goto 63 h d_X8_plans_183 (by decide) ?_
                          refine PW.perm [5, 6, 7, 8, 9, 10, 4, 3, 2, 1, 0] rfl ?_
                          refine ihb (d + 1) _ _ _ _ _ false _ (by omega) (by omega) (e6_85.trans hdg.2) (e7_105.trans (mv1.1 c96)) (e8_138.trans (sm1.1 c116)) e9_178 (b_dn eb2 hdn e10_180) ?_
                          rw [eI4]
                          exact plD_s hpd hdn hX ⟨fun q9 => absurd q9 (by decide), fun q9 => by rw [hg0] at q9; exact absurd q9.1 (by decide)⟩
                        · skip
                          have hg1 : gb = true := by rw [egd, bI_1] at c_142; exact Bool.not_eq_false _ ▸ c_142
                          refine pw_aload_n h 3 d_X8_plans_145 rfl ?_
                          refine pw_getR (j := (m + 2)) 8 h d_X8_plans_146 fd_RX8_13 (by assumption) rfl (by assumption) ?_
                          refine pw_iload h 10 d_X8_plans_149 rfl ?_
                          refine pw_iald h d_X8_plans_151 (by assumption) (by assumption) ?_
                          refine pw_aload_n h 3 d_X8_plans_152 rfl ?_
                          refine pw_getR (j := (m + 22)) 8 h d_X8_plans_153 fd_RX8_82 (by assumption) rfl (by assumption) ?_
                          refine pw_iload h 10 d_X8_plans_156 rfl ?_
                          refine pw_iald h d_X8_plans_158 (by assumption) (by assumption) ?_
                          refine pw_iadd h d_X8_plans_159 ?_
                          refine pw_i2l h d_X8_plans_160 ?_
                          refine pw_ldc2 h d_X8_plans_161 ck_RX8_116 ?_
                          refine pw_ldc2 h d_X8_plans_164 ck_RX8_118 ?_
                          refine pw_callS (As := [.long _, .long _, .long _]) h d_X8_plans_167 mf_X8_in st_yX8_in ml_RX8_105 ⟨by decide, by decide, by decide⟩ rfl rfl (Nat.le_of_ble_eq_true rfl) (c_X8_inW (a := -50) (b := 50) rfl rfl) ?_
                          refine PKk.ret ?_
                          refine pw_if_eq 177 h d_X8_plans_170 (by decide) (fun c_170 => ?_) (fun c_170 => ?_)
                          · skip
                            rw [bI_1] at c_170
                            refine pw_iconst (x := 0) h d_X8_plans_177 (by decide) ?_
                            refine pw_nmI (fun v9_178 e9_178 => ?_)
                            refine pw_istore (lv' := [(9, .int v9_178), (8, .int v8_138), (7, .int v7_105), (6, .int v6_85), (0, .ref m), (1, .int v), (2, .int fnd), (3, .int fsm), (4, .int al), (5, .int tn), (10, .int b)]) h d_X8_plans_178 _ hml (by decide) rfl ?_
                            obtain ⟨v10_180, e10_180⟩ : ∃ z : Int32, z = b + (-1) := ⟨_, rfl⟩
                            refine pw_iinc (lv' := [(10, .int v10_180), (9, .int v9_178), (8, .int v8_138), (7, .int v7_105), (6, .int v6_85), (0, .ref m), (1, .int v), (2, .int fnd), (3, .int fsm), (4, .int al), (5, .int tn)]) v10_180 h d_X8_plans_180 10 rfl e10_180.symm _ hml (by decide) rfl ?_
                            refine pw_goto 63 h d_X8_plans_183 (by decide) ?_
                            refine PW.perm [5, 6, 7, 8, 9, 10, 4, 3, 2, 1, 0] rfl ?_
                            refine ihb (d + 1) _ _ _ _ _ false _ (by omega) (by omega) (e6_85.trans hdg.2) (e7_105.trans (mv1.1 c96)) (e8_138.trans (sm1.1 c116)) e9_178 (b_dn eb2 hdn e10_180) ?_
                            rw [eI4]
                            exact plD_s hpd hdn hX ⟨fun q9 => absurd q9 (by decide), fun q9 => by have q8 := hin.mpr q9.2; rw [c_170] at q8; cases q8⟩
                          · skip
                            rw [bI_1, Bool.not_eq_false] at c_170
                            refine pw_iconst (x := 1) h d_X8_plans_173 (by decide) ?_
                            refine pw_goto 178 h d_X8_plans_174 (by decide) ?_
                            refine pw_nmI (fun v9_178 e9_178 => ?_)
                            refine pw_istore (lv' := [(9, .int v9_178), (8, .int v8_138), (7, .int v7_105), (6, .int v6_85), (0, .ref m), (1, .int v), (2, .int fnd), (3, .int fsm), (4, .int al), (5, .int tn), (10, .int b)]) h d_X8_plans_178 _ hml (by decide) rfl ?_
                            obtain ⟨v10_180, e10_180⟩ : ∃ z : Int32, z = b + (-1) := ⟨_, rfl⟩
                            refine pw_iinc (lv' := [(10, .int v10_180), (9, .int v9_178), (8, .int v8_138), (7, .int v7_105), (6, .int v6_85), (0, .ref m), (1, .int v), (2, .int fnd), (3, .int fsm), (4, .int al), (5, .int tn)]) v10_180 h d_X8_plans_180 10 rfl e10_180.symm _ hml (by decide) rfl ?_
                            refine pw_goto 63 h d_X8_plans_183 (by decide) ?_
                            refine PW.perm [5, 6, 7, 8, 9, 10, 4, 3, 2, 1, 0] rfl ?_
                            refine ihb (d + 1) _ _ _ _ _ true _ (by omega) (by omega) (e6_85.trans hdg.2) (e7_105.trans (mv1.1 c96)) (e8_138.trans (sm1.1 c116)) e9_178 (b_dn eb2 hdn e10_180) ?_
                            rw [eI4]
                            exact plD_s hpd hdn hX ⟨fun _ => ⟨hg1, hin.mp c_170⟩, fun _ => rfl⟩
                      · skip
                        have c116 : ¬ 0 ≤ x := by rw [← x4]; exact c_116
                        refine pw_aload_n h 2 d_X8_plans_119 rfl ?_
                        refine pw_getR (j := (m + 22)) 8 h d_X8_plans_120 fd_RX8_82 (by assumption) rfl (by assumption) ?_
                        refine pw_iload h 10 d_X8_plans_123 rfl ?_
                        refine pw_iald h d_X8_plans_125 (by assumption) (by assumption) ?_
                        refine pw_ineg h d_X8_plans_126 ?_
                        refine pw_goto 137 h d_X8_plans_127 (by decide) ?_
                        refine pw_iadd h d_X8_plans_137 ?_
                        refine pw_nmI (fun v8_138 e8_138 => ?_)
                        refine pw_istore (lv' := [(8, .int v8_138), (7, .int v7_105), (6, .int v6_85), (0, .ref m), (1, .int v), (2, .int fnd), (3, .int fsm), (4, .int al), (5, .int tn), (9, .int gd), (10, .int b)]) h d_X8_plans_138 _ hml (by decide) rfl ?_
                        rw [x4] at e8_138
                        refine pw_iload h 9 d_X8_plans_140 rfl ?_
                        refine pw_if_eq 177 h d_X8_plans_142 (by decide) (fun c_142 => ?_) (fun c_142 => ?_)
                        · skip
                          have hg0 : gb = false := by rw [egd] at c_142; exact bI_1.mp c_142
                          refine pw_iconst (x := 0) h d_X8_plans_177 (by decide) ?_
                          refine pw_nmI (fun v9_178 e9_178 => ?_)
                          refine pw_istore (lv' := [(9, .int v9_178), (8, .int v8_138), (7, .int v7_105), (6, .int v6_85), (0, .ref m), (1, .int v), (2, .int fnd), (3, .int fsm), (4, .int al), (5, .int tn), (10, .int b)]) h d_X8_plans_178 _ hml (by decide) rfl ?_
                          obtain ⟨v10_180, e10_180⟩ : ∃ z : Int32, z = b + (-1) := ⟨_, rfl⟩
                          refine pw_iinc (lv' := [(10, .int v10_180), (9, .int v9_178), (8, .int v8_138), (7, .int v7_105), (6, .int v6_85), (0, .ref m), (1, .int v), (2, .int fnd), (3, .int fsm), (4, .int al), (5, .int tn)]) v10_180 h d_X8_plans_180 10 rfl e10_180.symm _ hml (by decide) rfl ?_
                          refine pw_goto 63 h d_X8_plans_183 (by decide) ?_
                          refine PW.perm [5, 6, 7, 8, 9, 10, 4, 3, 2, 1, 0] rfl ?_
                          refine ihb (d + 1) _ _ _ _ _ false _ (by omega) (by omega) (e6_85.trans hdg.2) (e7_105.trans (mv1.1 c96)) (e8_138.trans (sm1.2 c116)) e9_178 (b_dn eb2 hdn e10_180) ?_
                          rw [eI4]
                          exact plD_s hpd hdn hX ⟨fun q9 => absurd q9 (by decide), fun q9 => by rw [hg0] at q9; exact absurd q9.1 (by decide)⟩
                        · skip
                          have hg1 : gb = true := by rw [egd, bI_1] at c_142; exact Bool.not_eq_false _ ▸ c_142
                          refine pw_aload_n h 3 d_X8_plans_145 rfl ?_
                          refine pw_getR (j := (m + 2)) 8 h d_X8_plans_146 fd_RX8_13 (by assumption) rfl (by assumption) ?_
                          refine pw_iload h 10 d_X8_plans_149 rfl ?_
                          refine pw_iald h d_X8_plans_151 (by assumption) (by assumption) ?_
                          refine pw_aload_n h 3 d_X8_plans_152 rfl ?_
                          refine pw_getR (j := (m + 22)) 8 h d_X8_plans_153 fd_RX8_82 (by assumption) rfl (by assumption) ?_
                          refine pw_iload h 10 d_X8_plans_156 rfl ?_
                          refine pw_iald h d_X8_plans_158 (by assumption) (by assumption) ?_
                          refine pw_iadd h d_X8_plans_159 ?_
                          refine pw_i2l h d_X8_plans_160 ?_
                          refine pw_ldc2 h d_X8_plans_161 ck_RX8_116 ?_
                          refine pw_ldc2 h d_X8_plans_164 ck_RX8_118 ?_
                          refine pw_callS (As := [.long _, .long _, .long _]) h d_X8_plans_167 mf_X8_in st_yX8_in ml_RX8_105 ⟨by decide, by decide, by decide⟩ rfl rfl (Nat.le_of_ble_eq_true rfl) (c_X8_inW (a := -50) (b := 50) rfl rfl) ?_
                          refine PKk.ret ?_
                          refine pw_if_eq 177 h d_X8_plans_170 (by decide) (fun c_170 => ?_) (fun c_170 => ?_)
                          · skip
                            rw [bI_1] at c_170
                            refine pw_iconst (x := 0) h d_X8_plans_177 (by decide) ?_
                            refine pw_nmI (fun v9_178 e9_178 => ?_)
                            refine pw_istore (lv' := [(9, .int v9_178), (8, .int v8_138), (7, .int v7_105), (6, .int v6_85), (0, .ref m), (1, .int v), (2, .int fnd), (3, .int fsm), (4, .int al), (5, .int tn), (10, .int b)]) h d_X8_plans_178 _ hml (by decide) rfl ?_
                            obtain ⟨v10_180, e10_180⟩ : ∃ z : Int32, z = b + (-1) := ⟨_, rfl⟩
                            refine pw_iinc (lv' := [(10, .int v10_180), (9, .int v9_178), (8, .int v8_138), (7, .int v7_105), (6, .int v6_85), (0, .ref m), (1, .int v), (2, .int fnd), (3, .int fsm), (4, .int al), (5, .int tn)]) v10_180 h d_X8_plans_180 10 rfl e10_180.symm _ hml (by decide) rfl ?_
                            refine pw_goto 63 h d_X8_plans_183 (by decide) ?_
                            refine PW.perm [5, 6, 7, 8, 9, 10, 4, 3, 2, 1, 0] rfl ?_
                            refine ihb (d + 1) _ _ _ _ _ false _ (by omega) (by omega) (e6_85.trans hdg.2) (e7_105.trans (mv1.1 c96)) (e8_138.trans (sm1.2 c116)) e9_178 (b_dn eb2 hdn e10_180) ?_
                            rw [eI4]
                            exact plD_s hpd hdn hX ⟨fun q9 => absurd q9 (by decide), fun q9 => by have q8 := hin.mpr q9.2; rw [c_170] at q8; cases q8⟩
                          · skip
                            rw [bI_1, Bool.not_eq_false] at c_170
                            refine pw_iconst (x := 1) h d_X8_plans_173 (by decide) ?_
                            refine pw_goto 178 h d_X8_plans_174 (by decide) ?_
                            refine pw_nmI (fun v9_178 e9_178 => ?_)
                            refine pw_istore (lv' := [(9, .int v9_178), (8, .int v8_138), (7, .int v7_105), (6, .int v6_85), (0, .ref m), (1, .int v), (2, .int fnd), (3, .int fsm), (4, .int al), (5, .int tn), (10, .int b)]) h d_X8_plans_178 _ hml (by decide) rfl ?_
                            obtain ⟨v10_180, e10_180⟩ : ∃ z : Int32, z = b + (-1) := ⟨_, rfl⟩
                            refine pw_iinc (lv' := [(10, .int v10_180), (9, .int v9_178), (8, .int v8_138), (7, .int v7_105), (6, .int v6_85), (0, .ref m), (1, .int v), (2, .int fnd), (3, .int fsm), (4, .int al), (5, .int tn)]) v10_180 h d_X8_plans_180 10 rfl e10_180.symm _ hml (by decide) rfl ?_
                            refine pw_goto 63 h d_X8_plans_183 (by decide) ?_
                            refine PW.perm [5, 6, 7, 8, 9, 10, 4, 3, 2, 1, 0] rfl ?_
                            refine ihb (d + 1) _ _ _ _ _ true _ (by omega) (by omega) (e6_85.trans hdg.2) (e7_105.trans (mv1.1 c96)) (e8_138.trans (sm1.2 c116)) e9_178 (b_dn eb2 hdn e10_180) ?_
                            rw [eI4]
                            exact plD_s hpd hdn hX ⟨fun _ => ⟨hg1, hin.mp c_170⟩, fun _ => rfl⟩
                    · skip
                      have c96 : ¬ x = 0 := by rw [← x4]; exact c_96
                      refine pw_iconst (x := 1) h d_X8_plans_99 (by decide) ?_
                      refine pw_goto 104 h d_X8_plans_100 (by decide) ?_
                      refine pw_iadd h d_X8_plans_104 ?_
                      refine pw_nmI (fun v7_105 e7_105 => ?_)
                      refine pw_istore (lv' := [(7, .int v7_105), (6, .int v6_85), (0, .ref m), (1, .int v), (2, .int fnd), (3, .int fsm), (4, .int al), (5, .int tn), (8, .int sm), (9, .int gd), (10, .int b)]) h d_X8_plans_105 _ hml (by decide) rfl ?_
                      refine pw_iload h 8 d_X8_plans_107 rfl ?_
                      refine pw_aload_n h 2 d_X8_plans_109 rfl ?_
                      refine pw_getR (j := (m + 22)) 8 h d_X8_plans_110 fd_RX8_82 (by assumption) rfl (by assumption) ?_
                      refine pw_iload h 10 d_X8_plans_113 rfl ?_
                      refine pw_iald h d_X8_plans_115 (by assumption) (by assumption) ?_
                      refine pw_if_ge 130 h d_X8_plans_116 (by decide) (fun c_116 => ?_) (fun c_116 => ?_)
                      · skip
                        have c116 : 0 ≤ x := by rw [← x4]; exact c_116
                        skip
                        refine pw_aload_n h 2 d_X8_plans_130 rfl ?_
                        refine pw_getR (j := (m + 22)) 8 h d_X8_plans_131 fd_RX8_82 (by assumption) rfl (by assumption) ?_
                        refine pw_iload h 10 d_X8_plans_134 rfl ?_
                        refine pw_iald h d_X8_plans_136 (by assumption) (by assumption) ?_
                        refine pw_iadd h d_X8_plans_137 ?_
                        refine pw_nmI (fun v8_138 e8_138 => ?_)
                        refine pw_istore (lv' := [(8, .int v8_138), (7, .int v7_105), (6, .int v6_85), (0, .ref m), (1, .int v), (2, .int fnd), (3, .int fsm), (4, .int al), (5, .int tn), (9, .int gd), (10, .int b)]) h d_X8_plans_138 _ hml (by decide) rfl ?_
                        rw [x4] at e8_138
                        refine pw_iload h 9 d_X8_plans_140 rfl ?_
                        refine pw_if_eq 177 h d_X8_plans_142 (by decide) (fun c_142 => ?_) (fun c_142 => ?_)
                        · skip
                          have hg0 : gb = false := by rw [egd] at c_142; exact bI_1.mp c_142
                          refine pw_iconst (x := 0) h d_X8_plans_177 (by decide) ?_
                          refine pw_nmI (fun v9_178 e9_178 => ?_)
                          refine pw_istore (lv' := [(9, .int v9_178), (8, .int v8_138), (7, .int v7_105), (6, .int v6_85), (0, .ref m), (1, .int v), (2, .int fnd), (3, .int fsm), (4, .int al), (5, .int tn), (10, .int b)]) h d_X8_plans_178 _ hml (by decide) rfl ?_
                          obtain ⟨v10_180, e10_180⟩ : ∃ z : Int32, z = b + (-1) := ⟨_, rfl⟩
                          refine pw_iinc (lv' := [(10, .int v10_180), (9, .int v9_178), (8, .int v8_138), (7, .int v7_105), (6, .int v6_85), (0, .ref m), (1, .int v), (2, .int fnd), (3, .int fsm), (4, .int al), (5, .int tn)]) v10_180 h d_X8_plans_180 10 rfl e10_180.symm _ hml (by decide) rfl ?_
                          refine pw_goto 63 h d_X8_plans_183 (by decide) ?_
                          refine PW.perm [5, 6, 7, 8, 9, 10, 4, 3, 2, 1, 0] rfl ?_
                          refine ihb (d + 1) _ _ _ _ _ false _ (by omega) (by omega) (e6_85.trans hdg.2) (e7_105.trans (mv1.2 c96)) (e8_138.trans (sm1.1 c116)) e9_178 (b_dn eb2 hdn e10_180) ?_
                          rw [eI4]
                          exact plD_s hpd hdn hX ⟨fun q9 => absurd q9 (by decide), fun q9 => by rw [hg0] at q9; exact absurd q9.1 (by decide)⟩
                        · skip
                          have hg1 : gb = true := by rw [egd, bI_1] at c_142; exact Bool.not_eq_false _ ▸ c_142
                          refine pw_aload_n h 3 d_X8_plans_145 rfl ?_
                          refine pw_getR (j := (m + 2)) 8 h d_X8_plans_146 fd_RX8_13 (by assumption) rfl (by assumption) ?_
                          refine pw_iload h 10 d_X8_plans_149 rfl ?_
                          refine pw_iald h d_X8_plans_151 (by assumption) (by assumption) ?_
                          refine pw_aload_n h 3 d_X8_plans_152 rfl ?_
                          refine pw_getR (j := (m + 22)) 8 h d_X8_plans_153 fd_RX8_82 (by assumption) rfl (by assumption) ?_
                          refine pw_iload h 10 d_X8_plans_156 rfl ?_
                          refine pw_iald h d_X8_plans_158 (by assumption) (by assumption) ?_
                          refine pw_iadd h d_X8_plans_159 ?_
                          refine pw_i2l h d_X8_plans_160 ?_
                          refine pw_ldc2 h d_X8_plans_161 ck_RX8_116 ?_
                          refine pw_ldc2 h d_X8_plans_164 ck_RX8_118 ?_
                          refine pw_callS (As := [.long _, .long _, .long _]) h d_X8_plans_167 mf_X8_in st_yX8_in ml_RX8_105 ⟨by decide, by decide, by decide⟩ rfl rfl (Nat.le_of_ble_eq_true rfl) (c_X8_inW (a := -50) (b := 50) rfl rfl) ?_
                          refine PKk.ret ?_
                          refine pw_if_eq 177 h d_X8_plans_170 (by decide) (fun c_170 => ?_) (fun c_170 => ?_)
                          · skip
                            rw [bI_1] at c_170
                            refine pw_iconst (x := 0) h d_X8_plans_177 (by decide) ?_
                            refine pw_nmI (fun v9_178 e9_178 => ?_)
                            refine pw_istore (lv' := [(9, .int v9_178), (8, .int v8_138), (7, .int v7_105), (6, .int v6_85), (0, .ref m), (1, .int v), (2, .int fnd), (3, .int fsm), (4, .int al), (5, .int tn), (10, .int b)]) h d_X8_plans_178 _ hml (by decide) rfl ?_
                            obtain ⟨v10_180, e10_180⟩ : ∃ z : Int32, z = b + (-1) := ⟨_, rfl⟩
                            refine pw_iinc (lv' := [(10, .int v10_180), (9, .int v9_178), (8, .int v8_138), (7, .int v7_105), (6, .int v6_85), (0, .ref m), (1, .int v), (2, .int fnd), (3, .int fsm), (4, .int al), (5, .int tn)]) v10_180 h d_X8_plans_180 10 rfl e10_180.symm _ hml (by decide) rfl ?_
                            refine pw_goto 63 h d_X8_plans_183 (by decide) ?_
                            refine PW.perm [5, 6, 7, 8, 9, 10, 4, 3, 2, 1, 0] rfl ?_
                            refine ihb (d + 1) _ _ _ _ _ false _ (by omega) (by omega) (e6_85.trans hdg.2) (e7_105.trans (mv1.2 c96)) (e8_138.trans (sm1.1 c116)) e9_178 (b_dn eb2 hdn e10_180) ?_
                            rw [eI4]
                            exact plD_s hpd hdn hX ⟨fun q9 => absurd q9 (by decide), fun q9 => by have q8 := hin.mpr q9.2; rw [c_170] at q8; cases q8⟩
                          · skip
                            rw [bI_1, Bool.not_eq_false] at c_170
                            refine pw_iconst (x := 1) h d_X8_plans_173 (by decide) ?_
                            refine pw_goto 178 h d_X8_plans_174 (by decide) ?_
                            refine pw_nmI (fun v9_178 e9_178 => ?_)
                            refine pw_istore (lv' := [(9, .int v9_178), (8, .int v8_138), (7, .int v7_105), (6, .int v6_85), (0, .ref m), (1, .int v), (2, .int fnd), (3, .int fsm), (4, .int al), (5, .int tn), (10, .int b)]) h d_X8_plans_178 _ hml (by decide) rfl ?_
                            obtain ⟨v10_180, e10_180⟩ : ∃ z : Int32, z = b + (-1) := ⟨_, rfl⟩
                            refine pw_iinc (lv' := [(10, .int v10_180), (9, .int v9_178), (8, .int v8_138), (7, .int v7_105), (6, .int v6_85), (0, .ref m), (1, .int v), (2, .int fnd), (3, .int fsm), (4, .int al), (5, .int tn)]) v10_180 h d_X8_plans_180 10 rfl e10_180.symm _ hml (by decide) rfl ?_
                            refine pw_goto 63 h d_X8_plans_183 (by decide) ?_
                            refine PW.perm [5, 6, 7, 8, 9, 10, 4, 3, 2, 1, 0] rfl ?_
                            refine ihb (d + 1) _ _ _ _ _ true _ (by omega) (by omega) (e6_85.trans hdg.2) (e7_105.trans (mv1.2 c96)) (e8_138.trans (sm1.1 c116)) e9_178 (b_dn eb2 hdn e10_180) ?_
                            rw [eI4]
                            exact plD_s hpd hdn hX ⟨fun _ => ⟨hg1, hin.mp c_170⟩, fun _ => rfl⟩
                      · skip
                        have c116 : ¬ 0 ≤ x := by rw [← x4]; exact c_116
                        refine pw_aload_n h 2 d_X8_plans_119 rfl ?_
                        refine pw_getR (j := (m + 22)) 8 h d_X8_plans_120 fd_RX8_82 (by assumption) rfl (by assumption) ?_
                        refine pw_iload h 10 d_X8_plans_123 rfl ?_
                        refine pw_iald h d_X8_plans_125 (by assumption) (by assumption) ?_
                        refine pw_ineg h d_X8_plans_126 ?_
                        refine pw_goto 137 h d_X8_plans_127 (by decide) ?_
                        refine pw_iadd h d_X8_plans_137 ?_
                        refine pw_nmI (fun v8_138 e8_138 => ?_)
                        refine pw_istore (lv' := [(8, .int v8_138), (7, .int v7_105), (6, .int v6_85), (0, .ref m), (1, .int v), (2, .int fnd), (3, .int fsm), (4, .int al), (5, .int tn), (9, .int gd), (10, .int b)]) h d_X8_plans_138 _ hml (by decide) rfl ?_
                        rw [x4] at e8_138
                        refine pw_iload h 9 d_X8_plans_140 rfl ?_
                        refine pw_if_eq 177 h d_X8_plans_142 (by decide) (fun c_142 => ?_) (fun c_142 => ?_)
                        · skip
                          have hg0 : gb = false := by rw [egd] at c_142; exact bI_1.mp c_142
                          refine pw_iconst (x := 0) h d_X8_plans_177 (by decide) ?_
                          refine pw_nmI (fun v9_178 e9_178 => ?_)
                          refine pw_istore (lv' := [(9, .int v9_178), (8, .int v8_138), (7, .int v7_105), (6, .int v6_85), (0, .ref m), (1, .int v), (2, .int fnd), (3, .int fsm), (4, .int al), (5, .int tn), (10, .int b)]) h d_X8_plans_178 _ hml (by decide) rfl ?_
                          obtain ⟨v10_180, e10_180⟩ : ∃ z : Int32, z = b + (-1) := ⟨_, rfl⟩
                          refine pw_iinc (lv' := [(10, .int v10_180), (9, .int v9_178), (8, .int v8_138), (7, .int v7_105), (6, .int v6_85), (0, .ref m), (1, .int v), (2, .int fnd), (3, .int fsm), (4, .int al), (5, .int tn)]) v10_180 h d_X8_plans_180 10 rfl e10_180.symm _ hml (by decide) rfl ?_
                          refine pw_goto 63 h d_X8_plans_183 (by decide) ?_
                          refine PW.perm [5, 6, 7, 8, 9, 10, 4, 3, 2, 1, 0] rfl ?_
                          refine ihb (d + 1) _ _ _ _ _ false _ (by omega) (by omega) (e6_85.trans hdg.2) (e7_105.trans (mv1.2 c96)) (e8_138.trans (sm1.2 c116)) e9_178 (b_dn eb2 hdn e10_180) ?_
                          rw [eI4]
                          exact plD_s hpd hdn hX ⟨fun q9 => absurd q9 (by decide), fun q9 => by rw [hg0] at q9; exact absurd q9.1 (by decide)⟩
                        · skip
                          have hg1 : gb = true := by rw [egd, bI_1] at c_142; exact Bool.not_eq_false _ ▸ c_142
                          refine pw_aload_n h 3 d_X8_plans_145 rfl ?_
                          refine pw_getR (j := (m + 2)) 8 h d_X8_plans_146 fd_RX8_13 (by assumption) rfl (by assumption) ?_
                          refine pw_iload h 10 d_X8_plans_149 rfl ?_
                          refine pw_iald h d_X8_plans_151 (by assumption) (by assumption) ?_
                          refine pw_aload_n h 3 d_X8_plans_152 rfl ?_
                          refine pw_getR (j := (m + 22)) 8 h d_X8_plans_153 fd_RX8_82 (by assumption) rfl (by assumption) ?_
                          refine pw_iload h 10 d_X8_plans_156 rfl ?_
                          refine pw_iald h d_X8_plans_158 (by assumption) (by assumption) ?_
                          refine pw_iadd h d_X8_plans_159 ?_
                          refine pw_i2l h d_X8_plans_160 ?_
                          refine pw_ldc2 h d_X8_plans_161 ck_RX8_116 ?_
                          refine pw_ldc2 h d_X8_plans_164 ck_RX8_118 ?_
                          refine pw_callS (As := [.long _, .long _, .long _]) h d_X8_plans_167 mf_X8_in st_yX8_in ml_RX8_105 ⟨by decide, by decide, by decide⟩ rfl rfl (Nat.le_of_ble_eq_true rfl) (c_X8_inW (a := -50) (b := 50) rfl rfl) ?_
                          refine PKk.ret ?_
                          refine pw_if_eq 177 h d_X8_plans_170 (by decide) (fun c_170 => ?_) (fun c_170 => ?_)
                          · skip
                            rw [bI_1] at c_170
                            refine pw_iconst (x := 0) h d_X8_plans_177 (by decide) ?_
                            refine pw_nmI (fun v9_178 e9_178 => ?_)
                            refine pw_istore (lv' := [(9, .int v9_178), (8, .int v8_138), (7, .int v7_105), (6, .int v6_85), (0, .ref m), (1, .int v), (2, .int fnd), (3, .int fsm), (4, .int al), (5, .int tn), (10, .int b)]) h d_X8_plans_178 _ hml (by decide) rfl ?_
                            obtain ⟨v10_180, e10_180⟩ : ∃ z : Int32, z = b + (-1) := ⟨_, rfl⟩
                            refine pw_iinc (lv' := [(10, .int v10_180), (9, .int v9_178), (8, .int v8_138), (7, .int v7_105), (6, .int v6_85), (0, .ref m), (1, .int v), (2, .int fnd), (3, .int fsm), (4, .int al), (5, .int tn)]) v10_180 h d_X8_plans_180 10 rfl e10_180.symm _ hml (by decide) rfl ?_
                            refine pw_goto 63 h d_X8_plans_183 (by decide) ?_
                            refine PW.perm [5, 6, 7, 8, 9, 10, 4, 3, 2, 1, 0] rfl ?_
                            refine ihb (d + 1) _ _ _ _ _ false _ (by omega) (by omega) (e6_85.trans hdg.2) (e7_105.trans (mv1.2 c96)) (e8_138.trans (sm1.2 c116)) e9_178 (b_dn eb2 hdn e10_180) ?_
                            rw [eI4]
                            exact plD_s hpd hdn hX ⟨fun q9 => absurd q9 (by decide), fun q9 => by have q8 := hin.mpr q9.2; rw [c_170] at q8; cases q8⟩
                          · skip
                            rw [bI_1, Bool.not_eq_false] at c_170
                            refine pw_iconst (x := 1) h d_X8_plans_173 (by decide) ?_
                            refine pw_goto 178 h d_X8_plans_174 (by decide) ?_
                            refine pw_nmI (fun v9_178 e9_178 => ?_)
                            refine pw_istore (lv' := [(9, .int v9_178), (8, .int v8_138), (7, .int v7_105), (6, .int v6_85), (0, .ref m), (1, .int v), (2, .int fnd), (3, .int fsm), (4, .int al), (5, .int tn), (10, .int b)]) h d_X8_plans_178 _ hml (by decide) rfl ?_
                            obtain ⟨v10_180, e10_180⟩ : ∃ z : Int32, z = b + (-1) := ⟨_, rfl⟩
                            refine pw_iinc (lv' := [(10, .int v10_180), (9, .int v9_178), (8, .int v8_138), (7, .int v7_105), (6, .int v6_85), (0, .ref m), (1, .int v), (2, .int fnd), (3, .int fsm), (4, .int al), (5, .int tn)]) v10_180 h d_X8_plans_180 10 rfl e10_180.symm _ hml (by decide) rfl ?_
                            refine pw_goto 63 h d_X8_plans_183 (by decide) ?_
                            refine PW.perm [5, 6, 7, 8, 9, 10, 4, 3, 2, 1, 0] rfl ?_
                            refine ihb (d + 1) _ _ _ _ _ true _ (by omega) (by omega) (e6_85.trans hdg.2) (e7_105.trans (mv1.2 c96)) (e8_138.trans (sm1.2 c116)) e9_178 (b_dn eb2 hdn e10_180) ?_
                            rw [eI4]
                            exact plD_s hpd hdn hX ⟨fun _ => ⟨hg1, hin.mp c_170⟩, fun _ => rfl⟩
              refine PW.perm [5, 6, 7, 8, 9, 10, 4, 3, 2, 1, 0] rfl ?_
              exact cut_63 (aN A + 1) 0 _ _ _ _ _ true I2 (by omega) (Nat.zero_le _) (by rw [e6_44, etn, Nat.pow_zero, Nat.div_one]) e7_47 e8_50 e9_53 (by rw [e10_61, n2]; rfl) plD_0
        refine PW.perm [1, 2, 3, 4, 5, 0] rfl ?_
        exact cut_35 (5 ^ aN A + 1) 0 _ _ _ I L (by omega) (Nat.zero_le _) e5_33 frMP_0 frML_0 e2_2
      · skip
        have hkl : k < aN A := k_lt ey hn (by omega) (by omega) c_17
        refine pw_iload h 4 d_X8_plans_20 rfl ?_
        refine pw_iconst (x := 5) h d_X8_plans_22 (by decide) ?_
        refine pw_imul h d_X8_plans_23 ?_
        refine pw_nmI (fun v4_24 e4_24 => ?_)
        refine pw_istore (lv' := [(4, .int v4_24), (0, .ref m), (1, .int v), (2, .int fnd), (3, .int fsm), (5, .int y)]) h d_X8_plans_24 _ hml (by decide) rfl ?_
        obtain ⟨v5_26, e5_26⟩ : ∃ z : Int32, z = y + (1) := ⟨_, rfl⟩
        refine pw_iinc (lv' := [(5, .int v5_26), (4, .int v4_24), (0, .ref m), (1, .int v), (2, .int fnd), (3, .int fsm)]) v5_26 h d_X8_plans_26 5 rfl e5_26.symm _ hml (by decide) rfl ?_
        refine pw_goto 11 h d_X8_plans_29 (by decide) ?_
        refine PW.perm [2, 3, 4, 5, 1, 0] rfl ?_
        exact ih (k + 1) _ _ _ _ (by omega) (by omega) (k_up e5_26 ey) (by rw [e4_24, eal, Nat.pow_succ]; exact pk_mul (5 ^ k) 5) e2_2
  refine PW.perm [4, 5, 3, 2, 1, 0] rfl ?_
  exact cut_11 (aN A + 1) 0 _ _ _ _ (by omega) (Nat.zero_le _) e5_9 e4_6 e2_2

set_option maxHeartbeats 4000000 in
set_option maxRecDepth 100000 in
theorem c_X8_plan {sh : Sh} {I : IM} {L : LM} {R : RM} {m : Nat} {A : LA} (hM : ModF sh R m) (hm : MLn I m A) (a : okA A) {lo hi : Int} (hlh : LHm I m lo hi) (hz : ∀ k, k < 6 → I (m + 22) k = 0) (v : Int32) : PMet M_X8_plan [.ref m, .int v] sh I L R (plM sh I L R m (fun ret => ifA (isW v 1 15) (ret = some (.int (planV A lo hi v))) (ret = some (.int (-1))))) := by
  refine PMet.of mf_X8_plan (Nat.le_of_ble_eq_true rfl) ?_
  intro X h hr hml
  have hml : (xc X).maxLocals = 2 := hml
  have h : PXok X RX8 cX8_plan 11 0 0 := h
  have hr : PXr X (some .int) "plan" _ 0 0 := hr
  have hM0 := hM
  obtain ⟨f0, f1, f2, f3, f4, f5, f6, f7, f8, f9, f10, f11, f12, f13, f14, f15, f16, f17, f18, f19, f20, f21, f22, f23, f24, f25, f26, f27, g1, g2, g3, g4, g5, g6, g7, g8, g9, g10, g11, g12, g13, g14, g15, g16, g17, g18, g19, g20, g21, g22, g23, g24, g25, g26, g27⟩ := hM
  have hn := hm.1
  have h6 := a.1
  show PW X 0 [(0, .ref m), (1, .int v)] [] sh I L R 0 0
  refine pw_iload_n h 1 d_X8_plan_0 rfl ?_
  refine pw_i2l h d_X8_plan_1 ?_
  refine pw_lconst (x := 1) h d_X8_plan_2 (by decide) ?_
  refine pw_ldc2 h d_X8_plan_3 ck_RX8_329 ?_
  refine pw_callS (As := [.long _, .long _, .long _]) h d_X8_plan_6 mf_X8_in st_yX8_in ml_RX8_105 ⟨by decide, by decide, by decide⟩ rfl rfl (Nat.le_of_ble_eq_true rfl) (c_X8_inW (a := 1) (b := 15) rfl rfl) ?_
  refine PKk.ret ?_
  refine pw_if_ne 14 h d_X8_plan_9 (by decide) (fun c_9 => ?_) (fun c_9 => ?_)
  · skip
    rw [bI_1, Bool.not_eq_false] at c_9
    refine pw_aload_n h 0 d_X8_plan_14 rfl ?_
    refine pw_getI 8 h d_X8_plan_15 fd_RX8_109 (by assumption) rfl ?_
    refine pw_iconst (x := 4) h d_X8_plan_18 (by decide) ?_
    refine pw_icmp_le 27 h d_X8_plan_19 (by decide) (fun c_19 => ?_) (fun c_19 => ?_)
    · skip
      have h4 : aN A ≤ 4 := k_le2 hn (c := 4) (n := 4) rfl (by omega) (by decide) c_19
      refine pw_aload_n h 0 d_X8_plan_27 rfl ?_
      refine pw_iload_n h 1 d_X8_plan_28 rfl ?_
      refine pw_callV (As := [.int _]) h d_X8_plan_29 mf_X8_plans mi_X8_plans ml_RX8_334 ⟨by decide, by decide, by decide⟩ (by assumption) rfl rfl (Nat.le_of_ble_eq_true rfl) trivial (c_X8_plans hM0 hm a hlh h4 v) ?_
      intro ret1 sh1 I1 L1 R1 hp1
      obtain ⟨e1, eR, f1, g1, z1, fnd, fsm, ebb, hpl⟩ := hp1
      have e1 := e1.symm
      have eR := eR.symm
      subst e1
      subst eR
      subst ebb
      refine ⟨rfl, ?_⟩
      refine pw_iret h hr d_X8_plan_32 rfl (by decide) (by decide) ?_
      exact ⟨rfl, rfl, f1, g1, z1, ifA_t c_9 (by rw [pls_V h4 hpl])⟩
    · skip
      have h4 : ¬ aN A ≤ 4 := by have q9 := k_gt2 hn (c := 4) (n := 4) rfl (by omega) (by decide) c_19; omega
      refine pw_bipush (x := (-4)) h d_X8_plan_22 (by decide) ?_
      refine pw_goto 32 h d_X8_plan_24 (by decide) ?_
      refine pw_iret h hr d_X8_plan_32 rfl (by decide) (by decide) ?_
      exact ⟨rfl, rfl, frMP_0, frML_0, hz, ifA_t c_9 (by rw [← plV_no h4])⟩
  · skip
    rw [bI_1] at c_9
    refine pw_iconst (x := (-1)) h d_X8_plan_12 (by decide) ?_
    refine pw_iret h hr d_X8_plan_13 rfl (by decide) (by decide) ?_
    exact ⟨rfl, rfl, frMP_0, frML_0, hz, ifA_f c_9 rfl⟩

set_option maxHeartbeats 4000000 in
set_option maxRecDepth 100000 in
theorem c_X8_move {sh : Sh} {I : IM} {L : LM} {R : RM} {m : Nat} {A : LA} (hM : ModF sh R m) (hm : MLn I m A) (a : okA A) {lo hi : Int} (hlh : LHm I m lo hi) (hz : ∀ k, k < 6 → I (m + 22) k = 0) (v b : Int32) : PMet M_X8_move [.ref m, .int v, .int b] sh I L R (plM sh I L R m (fun ret => ifA (isW v 1 15 && isBn (aN A) b) (movA A lo hi v b.toNatClampNeg ret) (ret = some (.int (-101))))) := by
  refine PMet.of mf_X8_move (Nat.le_of_ble_eq_true rfl) ?_
  intro X h hr hml
  have hml : (xc X).maxLocals = 3 := hml
  have h : PXok X RX8 cX8_move 11 0 0 := h
  have hr : PXr X (some .int) "move" _ 0 0 := hr
  have hM0 := hM
  obtain ⟨f0, f1, f2, f3, f4, f5, f6, f7, f8, f9, f10, f11, f12, f13, f14, f15, f16, f17, f18, f19, f20, f21, f22, f23, f24, f25, f26, f27, g1, g2, g3, g4, g5, g6, g7, g8, g9, g10, g11, g12, g13, g14, g15, g16, g17, g18, g19, g20, g21, g22, g23, g24, g25, g26, g27⟩ := hM
  have hn := hm.1
  have h6 := a.1
  show PW X 0 [(0, .ref m), (1, .int v), (2, .int b)] [] sh I L R 0 0
  refine pw_iload_n h 1 d_X8_move_0 rfl ?_
  refine pw_i2l h d_X8_move_1 ?_
  refine pw_lconst (x := 1) h d_X8_move_2 (by decide) ?_
  refine pw_ldc2 h d_X8_move_3 ck_RX8_329 ?_
  refine pw_callS (As := [.long _, .long _, .long _]) h d_X8_move_6 mf_X8_in st_yX8_in ml_RX8_105 ⟨by decide, by decide, by decide⟩ rfl rfl (Nat.le_of_ble_eq_true rfl) (c_X8_inW (a := 1) (b := 15) rfl rfl) ?_
  refine PKk.ret ?_
  refine pw_if_eq 20 h d_X8_move_9 (by decide) (fun c_9 => ?_) (fun c_9 => ?_)
  · skip
    rw [bI_1] at c_9
    refine pw_bipush (x := (-101)) h d_X8_move_20 (by decide) ?_
    refine pw_iret h hr d_X8_move_22 rfl (by decide) (by decide) ?_
    refine ⟨rfl, rfl, frMP_0, frML_0, hz, ifA_f ?_ rfl⟩
    first | (simp only [isBn, c_9, Bool.false_and]; done) | (simp only [isBn, c_17, Bool.and_false]; done)
  · skip
    rw [bI_1, Bool.not_eq_false] at c_9
    refine pw_aload_n h 0 d_X8_move_12 rfl ?_
    refine pw_iload_n h 2 d_X8_move_13 rfl ?_
    refine pw_callV (As := [.int _]) h d_X8_move_14 mf_X8_isBearing mi_X8_isBearing ml_RX8_128 ⟨by decide, by decide, by decide⟩ (by assumption) rfl rfl (Nat.le_of_ble_eq_true rfl) trivial (c_X8_isBearing hM0 hn h6) ?_
    refine PKk.ret ?_
    refine pw_if_ne 23 h d_X8_move_17 (by decide) (fun c_17 => ?_) (fun c_17 => ?_)
    · skip
      rw [bI_1, Bool.not_eq_false] at c_17
      have hbl := isBn_ix (n := aN A) (N := aN A) c_17 (Nat.le_refl _)
      have hbx := isBn_ix (N := 6) c_17 h6
      refine pw_aload_n h 0 d_X8_move_23 rfl ?_
      refine pw_getI 8 h d_X8_move_24 fd_RX8_109 (by assumption) rfl ?_
      refine pw_iconst (x := 4) h d_X8_move_27 (by decide) ?_
      refine pw_icmp_gt 39 h d_X8_move_28 (by decide) (fun c_28 => ?_) (fun c_28 => ?_)
      · skip
        have h4 : ¬ aN A ≤ 4 := by have q9 := k_lt2 (v := 4) (c := I m 0) (i := 4) (n := aN A) rfl hn (by decide) (by omega) c_28; omega
        refine pw_bipush (x := (-104)) h d_X8_move_39 (by decide) ?_
        refine pw_goto 50 h d_X8_move_41 (by decide) ?_
        refine pw_iret h hr d_X8_move_50 rfl (by decide) (by decide) ?_
        exact ⟨rfl, rfl, frMP_0, frML_0, hz, ifA_t (by simp only [isBn, c_9, c_17, Bool.and_self]) (Or.inr ⟨fun q9 => absurd q9 h4, rfl⟩)⟩
      · skip
        have h4 : aN A ≤ 4 := by have q9 := k_ge2 (v := 4) (c := I m 0) (i := 4) (n := aN A) rfl hn (by decide) (by omega) c_28; omega
        refine pw_aload_n h 0 d_X8_move_31 rfl ?_
        refine pw_iload_n h 1 d_X8_move_32 rfl ?_
        refine pw_callV (As := [.int _]) h d_X8_move_33 mf_X8_plans mi_X8_plans ml_RX8_334 ⟨by decide, by decide, by decide⟩ (by assumption) rfl rfl (Nat.le_of_ble_eq_true rfl) trivial (c_X8_plans hM0 hm a hlh h4 v) ?_
        intro ret1 sh1 I1 L1 R1 hp1
        obtain ⟨e1, eR, f1, g1, z1, fnd, fsm, ebb, hpl⟩ := hp1
        have e1 := e1.symm
        have eR := eR.symm
        subst e1
        subst eR
        subst ebb
        have hmo := pls_m (b := b.toNatClampNeg) h4 (px_ix_lt hbl) hpl
        refine ⟨rfl, ?_⟩
        refine pw_if_ge 44 h d_X8_move_36 (by decide) (fun c_36 => ?_) (fun c_36 => ?_)
        · skip
          refine pw_aload_n h 0 d_X8_move_44 rfl ?_
          refine pw_getR (j := (m + 23)) 8 h d_X8_move_45 fd_RX8_88 (by assumption) rfl (by assumption) ?_
          refine pw_iload_n h 2 d_X8_move_48 rfl ?_
          refine pw_iald h d_X8_move_49 (by assumption) (by assumption) ?_
          refine pw_iret h hr d_X8_move_50 rfl (by decide) (by decide) ?_
          exact ⟨rfl, rfl, f1, g1, z1, ifA_t (by simp only [isBn, c_9, c_17, Bool.and_self]) (hmo.2 c_36)⟩
        · skip
          refine pw_bipush (x := (-104)) h d_X8_move_39 (by decide) ?_
          refine pw_goto 50 h d_X8_move_41 (by decide) ?_
          refine pw_iret h hr d_X8_move_50 rfl (by decide) (by decide) ?_
          exact ⟨rfl, rfl, f1, g1, z1, ifA_t (by simp only [isBn, c_9, c_17, Bool.and_self]) (hmo.1 c_36)⟩
    · skip
      rw [bI_1] at c_17
      refine pw_bipush (x := (-101)) h d_X8_move_20 (by decide) ?_
      refine pw_iret h hr d_X8_move_22 rfl (by decide) (by decide) ?_
      refine ⟨rfl, rfl, frMP_0, frML_0, hz, ifA_f ?_ rfl⟩
      first | (simp only [isBn, c_9, Bool.false_and]; done) | (simp only [isBn, c_17, Bool.and_false]; done)
