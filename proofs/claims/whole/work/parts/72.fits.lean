set_option maxHeartbeats 4000000 in
set_option maxRecDepth 100000 in
theorem c_X7_fits {sh : Sh} {I : IM} {L : LM} {R : RM} (hCl : ClsF sh R) {A : LA} (hm : CLm I A) (a : okA A) (hr0 : CRest I L A) {lo hi : Int} (hlh : LH I lo hi) (v : Int32) : PMet M_X7_fits [.ref 0, .int v] sh I L R (obs sh I L R A (fun ret => ifA (isW v 1 15) (∃ bb : Bool, ret = some (.int (bI bb)) ∧ (bb = true ↔ fitP A lo hi (selM v) 4)) (ret = some (.int (-1))))) := by
  refine PMet.of mf_X7_fits (Nat.le_of_ble_eq_true rfl) ?_
  intro X h hr hml
  have hml : (xc X).maxLocals = 3 := hml
  have h : PXok X RX7 cX7_fits 7 0 0 := h
  have hr : PXr X (some .int) "fits" _ 0 0 := hr
  have hCl := hCl
  obtain ⟨hC, hB21, hB33, hQ, hPl⟩ := id hCl
  have hC0 := hC
  obtain ⟨k0, r0, r1, r2, r4, r5, r6, r7, r8, r13, r15, r16, hL, k7, r7s, k8s, k12, k20, r20s, hSs, k71, k72⟩ := hC
  have hL0 := hL
  obtain ⟨f0, f1, f2, f3, f4, f5, g1, g2, g3, g4, g5⟩ := hL
  have hQ0 := hQ
  obtain ⟨q0, q1, hB45, q13, q14, q15, p2, p3, p4⟩ := id hQ
  have hn := hm.1
  have h6 := a.1
  have k46 := hB45.1
  have k21 := hB21.1
  have k33 := hB33.1
  show PW X 0 [(0, .ref 0), (1, .int v)] [] sh I L R 0 0
  refine pw_iload_n h 1 d_X7_fits_0 rfl ?_
  refine pw_iconst (x := 1) h d_X7_fits_1 (by decide) ?_
  refine pw_bipush (x := 15) h d_X7_fits_2 (by decide) ?_
  refine pw_callS (As := [.int _, .int _, .int _]) h d_X7_fits_4 mf_X7_isWithin st_yX7_isWithin ml_RX7_97 ⟨by decide, by decide, by decide⟩ rfl rfl (Nat.le_of_ble_eq_true rfl) c_X7_isWithin ?_
  refine PKk.ret ?_
  refine pw_if_ne 12 h d_X7_fits_7 (by decide) (fun c_7 => ?_) (fun c_7 => ?_)
  · skip
    rw [bI_1, Bool.not_eq_false] at c_7
    refine pw_iconst (x := 0) h d_X7_fits_12 (by decide) ?_
    refine pw_nmI (fun v2_13 e2_13 => ?_)
    refine pw_istore_n (lv' := [(2, .int v2_13), (0, .ref 0), (1, .int v)]) h d_X7_fits_13 rfl _ hml (by decide) rfl ?_
    have cut_14 : ∀ (N i : Nat) (y : Int32) (I2 : IM) (L2 : LM), 4 < i + N → i ≤ 4 → y = nI i → frK I I2 → frKL L L2 → CRest I2 L2 A → fitP A lo hi (selM v) i → PW X 14 [(0, .ref 0), (1, .int v), (2, .int y)] [] sh I2 L2 R 0 0 := by
      intro N
      induction N with
      | zero => intros; omega
      | succ N ih =>
        intro i y I2 L2 hN hi4 ei fK2 fL2 hre2 hf2
        have hm2 : CLm I2 A := CLm_K hm fK2
        refine pw_iload_n h 2 d_X7_fits_14 rfl ?_
        refine pw_iconst (x := 4) h d_X7_fits_15 (by decide) ?_
        refine pw_icmp_ge 51 h d_X7_fits_16 (by decide) (fun c_16 => ?_) (fun c_16 => ?_)
        · skip
          have hge := k_ge ei (n := 4) rfl (by omega) (by omega) c_16
          have e : i = 4 := by omega
          subst e
          refine pw_iconst (x := 1) h d_X7_fits_51 (by decide) ?_
          refine pw_iret h hr d_X7_fits_52 rfl (by decide) (by decide) ?_
          exact ⟨rfl, rfl, frB_K fK2, frBL_K fL2, hre2, ifA_t c_7 ⟨true, rfl, fun _ => hf2, fun _ => rfl⟩⟩
        · skip
          have hst := k_lt ei (n := 4) rfl (by omega) (by omega) c_16
          refine pw_iload_n h 1 d_X7_fits_19 rfl ?_
          refine pw_iload_n h 2 d_X7_fits_20 rfl ?_
          refine pw_ishr h d_X7_fits_21 ?_
          refine pw_iconst (x := 1) h d_X7_fits_22 (by decide) ?_
          refine pw_iand h d_X7_fits_23 ?_
          refine pw_iconst (x := 1) h d_X7_fits_24 (by decide) ?_
          refine pw_icmp_ne 45 h d_X7_fits_25 (by decide) (fun c_25 => ?_) (fun c_25 => ?_)
          · skip
            have hsel : selM v i = false := by rw [ei] at c_25; exact decide_eq_false c_25
            have hfit := fit_s hf2 (fun q => by rw [hsel] at q; cases q)
            have g1 := fK2
            have g2 := fL2
            have g3 := hre2
            obtain ⟨v2_45, e2_45⟩ : ∃ z : Int32, z = y + (1) := ⟨_, rfl⟩
            refine pw_iinc (lv' := [(2, .int v2_45), (0, .ref 0), (1, .int v)]) v2_45 h d_X7_fits_45 2 rfl e2_45.symm _ hml (by decide) rfl ?_
            refine pw_goto 14 h d_X7_fits_48 (by decide) ?_
            refine PW.perm [1, 2, 0] rfl ?_
            exact ih (i + 1) v2_45 _ _ (by omega) (by omega) (k_up e2_45 ei) g1 g2 g3 hfit
          · skip
            have hsel : selM v i = true := by rw [ei] at c_25; exact decide_eq_true c_25
            refine pw_aload_n h 0 d_X7_fits_28 rfl ?_
            refine pw_iload_n h 2 d_X7_fits_29 rfl ?_
            refine pw_callV (As := [.int _]) h d_X7_fits_30 mf_X7_comesToRest mi_X7_comesToRest ml_RX7_189 ⟨by decide, by decide, by decide⟩ (by assumption) rfl rfl (Nat.le_of_ble_eq_true rfl) trivial (c_X7_comesToRest hCl hm2 a hre2 hst ei) ?_
            intro ret3 sh3 I3 L3 R3 hp3
            obtain ⟨e1, eR, fK3, fL3, h9_3, hcr3, hres⟩ := hp3
            have e1 := e1.symm
            have eR := eR.symm
            subst e1
            subst eR
            obtain ⟨bb, hbb, hb1, hb2⟩ := ctr_b hcr3 hres
            subst hbb
            have fK4 := frK_t fK2 fK3
            have fL4 := frKL_t fL2 fL3
            have hre3 : CRest I3 L3 A := CRest_of hst h9_3 hcr3
            have hm3 : CLm I3 A := CLm_K hm fK4
            refine ⟨rfl, ?_⟩
            refine pw_if_eq 43 h d_X7_fits_33 (by decide) (fun c_33 => ?_) (fun c_33 => ?_)
            · skip
              rw [bI_1] at c_33
              have hnf : ¬ fitP A lo hi (selM v) 4 := fit_no hst hsel (hb2 c_33)
              refine pw_iconst (x := 0) h d_X7_fits_43 (by decide) ?_
              refine pw_iret h hr d_X7_fits_44 rfl (by decide) (by decide) ?_
              exact ⟨rfl, rfl, frB_K fK4, frBL_K fL4, hre3, ifA_t c_7 ⟨false, rfl, fun q => (by cases q), fun q => absurd q hnf⟩⟩
            · skip
              rw [bI_1, Bool.not_eq_false] at c_33
              obtain ⟨c, hc, hS⟩ := hb1 c_33
              have h2 := fir_2 (by omega) hc
              have hwb := wb_lh a hst hS h2 (LH_K hlh fK4)
              refine pw_aload_n h 0 d_X7_fits_36 rfl ?_
              refine pw_callV (As := []) h d_X7_fits_37 mf_X7_isWithinBounds mi_X7_isWithinBounds ml_RX7_261 ⟨by decide, by decide, by decide⟩ (by assumption) rfl rfl (Nat.le_of_ble_eq_true rfl) trivial (c_X7_isWithinBounds hCl hm3 a hst hS) ?_
              refine PKk.ret ?_
              refine pw_if_ne 45 h d_X7_fits_40 (by decide) (fun c_40 => ?_) (fun c_40 => ?_)
              · skip
                rw [bI_1, Bool.not_eq_false] at c_40
                have hfit := fit_s hf2 (fun _ => ⟨c, hc, hwb.mp c_40⟩)
                have g1 := fK4
                have g2 := fL4
                have g3 := hre3
                obtain ⟨v2_45, e2_45⟩ : ∃ z : Int32, z = y + (1) := ⟨_, rfl⟩
                refine pw_iinc (lv' := [(2, .int v2_45), (0, .ref 0), (1, .int v)]) v2_45 h d_X7_fits_45 2 rfl e2_45.symm _ hml (by decide) rfl ?_
                refine pw_goto 14 h d_X7_fits_48 (by decide) ?_
                refine PW.perm [1, 2, 0] rfl ?_
                exact ih (i + 1) v2_45 _ _ (by omega) (by omega) (k_up e2_45 ei) g1 g2 g3 hfit
              · skip
                rw [bI_1] at c_40
                have hnf : ¬ fitP A lo hi (selM v) 4 := fit_no2 hst hsel hc (fun q => by have := hwb.mpr q; rw [this] at c_40; cases c_40)
                refine pw_iconst (x := 0) h d_X7_fits_43 (by decide) ?_
                refine pw_iret h hr d_X7_fits_44 rfl (by decide) (by decide) ?_
                exact ⟨rfl, rfl, frB_K fK4, frBL_K fL4, hre3, ifA_t c_7 ⟨false, rfl, fun q => (by cases q), fun q => absurd q hnf⟩⟩
    refine PW.perm [1, 2, 0] rfl ?_
    exact cut_14 5 0 v2_13 I L (by omega) (by omega) e2_13 frK_0 frKL_0 hr0 (fun s hs => absurd hs (Nat.not_lt_zero _))
  · skip
    rw [bI_1] at c_7
    refine pw_iconst (x := (-1)) h d_X7_fits_10 (by decide) ?_
    refine pw_iret h hr d_X7_fits_11 rfl (by decide) (by decide) ?_
    exact ⟨rfl, rfl, frB_0, frBL_0, hr0, ifA_f c_7 rfl⟩

set_option maxHeartbeats 4000000 in
set_option maxRecDepth 100000 in
theorem c_X7_run {sh : Sh} {I : IM} {L : LM} {R : RM} (hCl : ClsF sh R) {A : LA} (hm : CLm I A) (a : okA A) (hr0 : CRest I L A) (v : Int32) : PMet M_X7_run [.ref 0, .int v] sh I L R (RunP sh I L R A v) := by
  refine PMet.of mf_X7_run (Nat.le_of_ble_eq_true rfl) ?_
  intro X h hr hml
  have hml : (xc X).maxLocals = 5 := hml
  have h : PXok X RX7 cX7_run 7 0 0 := h
  have hr : PXr X (some .int) "run" _ 0 0 := hr
  have hCl := hCl
  obtain ⟨hC, hB21, hB33, hQ, hPl⟩ := id hCl
  have hC0 := hC
  obtain ⟨k0, r0, r1, r2, r4, r5, r6, r7, r8, r13, r15, r16, hL, k7, r7s, k8s, k12, k20, r20s, hSs, k71, k72⟩ := hC
  have hL0 := hL
  obtain ⟨f0, f1, f2, f3, f4, f5, g1, g2, g3, g4, g5⟩ := hL
  have hQ0 := hQ
  obtain ⟨q0, q1, hB45, q13, q14, q15, p2, p3, p4⟩ := id hQ
  have hn := hm.1
  have h6 := a.1
  have k46 := hB45.1
  have k21 := hB21.1
  have k33 := hB33.1
  have hst : (0 : Nat) < 4 := by decide
  show PW X 0 [(0, .ref 0), (1, .int v)] [] sh I L R 0 0
  refine pw_iload_n h 1 d_X7_run_0 rfl ?_
  refine pw_iconst (x := 1) h d_X7_run_1 (by decide) ?_
  refine pw_sipush (x := 1000) h d_X7_run_2 (by decide) ?_
  refine pw_callS (As := [.int _, .int _, .int _]) h d_X7_run_5 mf_X7_isWithin st_yX7_isWithin ml_RX7_97 ⟨by decide, by decide, by decide⟩ rfl rfl (Nat.le_of_ble_eq_true rfl) c_X7_isWithin ?_
  refine PKk.ret ?_
  refine pw_if_ne 13 h d_X7_run_8 (by decide) (fun c_8 => ?_) (fun c_8 => ?_)
  · skip
    rw [bI_1, Bool.not_eq_false] at c_8
    refine pw_aload_n h 0 d_X7_run_13 rfl ?_
    refine pw_iconst (x := 0) h d_X7_run_14 (by decide) ?_
    refine pw_callV (As := [.int _]) h d_X7_run_15 mf_X7_comesToRest mi_X7_comesToRest ml_RX7_189 ⟨by decide, by decide, by decide⟩ (by assumption) rfl rfl (Nat.le_of_ble_eq_true rfl) trivial (c_X7_comesToRest hCl hm a hr0 hst rfl) ?_
    intro ret1 sh1 I1 L1 R1 hp1
    obtain ⟨e1, eR, fK1, fL1, h9_1, hcr1, hres⟩ := hp1
    have e1 := e1.symm
    have eR := eR.symm
    subst e1
    subst eR
    obtain ⟨bb, hbb, hb1, hb2⟩ := ctr_b hcr1 hres
    subst hbb
    have hm1 : CLm I1 A := CLm_K hm fK1
    have hre1 : CRest I1 L1 A := CRest_of hst h9_1 hcr1
    refine ⟨rfl, ?_⟩
    refine pw_if_ne 24 h d_X7_run_18 (by decide) (fun c_18 => ?_) (fun c_18 => ?_)
    · skip
      rw [bI_1, Bool.not_eq_false] at c_18
      obtain ⟨c, hc, hS⟩ := hb1 c_18
      have h2 := fir_2 (by omega) hc
      refine pw_iconst (x := 0) h d_X7_run_24 (by decide) ?_
      refine pw_nmI (fun v2_25 e2_25 => ?_)
      refine pw_istore_n (lv' := [(2, .int v2_25), (0, .ref 0), (1, .int v)]) h d_X7_run_25 rfl _ hml (by decide) rfl ?_
      refine pw_iconst (x := 0) h d_X7_run_26 (by decide) ?_
      refine pw_nmI (fun v3_27 e3_27 => ?_)
      refine pw_istore_n (lv' := [(3, .int v3_27), (2, .int v2_25), (0, .ref 0), (1, .int v)]) h d_X7_run_27 rfl _ hml (by decide) rfl ?_
      have cut_28 : ∀ (N i : Nat) (x y : Int32), aN A < i + N → i ≤ aN A → y = nI i → x = nI (cntS (lessB I1 (hrA A (setA A c) v)) i) → PW X 28 [(0, .ref 0), (1, .int v), (2, .int x), (3, .int y)] [] sh (runI I1 (hrA A (setA A c) v) i) L1 R 0 0 := by
        intro N
        induction N with
        | zero => intros; omega
        | succ N ih =>
          intro i x y hN hi ei ex
          refine pw_iload_n h 3 d_X7_run_28 rfl ?_
          refine pw_aload_n h 0 d_X7_run_29 rfl ?_
          refine pw_getR (j := 1) 7 h d_X7_run_30 fd_RX7_12 (by assumption) rfl (by assumption) ?_
          refine pw_getI 2 h d_X7_run_33 fd_RX7_105 (by assumption) rfl ?_
          refine pw_icmp_ge 87 h d_X7_run_36 (by decide) (fun c_36 => ?_) (fun c_36 => ?_)
          · skip
            have hge := k_ge (n := aN A) ei (by rw [runI_o (by decide) (by decide)]; exact hm1.1) (by omega) (by omega) c_36
            have e : aN A = i := by omega
            refine pw_aload_n h 0 d_X7_run_87 rfl ?_
            refine pw_callV (As := []) h d_X7_run_88 mf_X7_forgetAnswers mi_X7_forgetAnswers ml_RX7_108 ⟨by decide, by decide, by decide⟩ (by assumption) rfl rfl (Nat.le_of_ble_eq_true rfl) trivial (c_X7_forgetAnswers hC0) ?_
            refine PKk.ret ?_
            refine pw_iload_n h 2 d_X7_run_91 rfl ?_
            refine pw_iret h hr d_X7_run_92 rfl (by decide) (by decide) ?_
            exact ⟨rfl, rfl, frBL_K fL1, ifA_t c_8 (Or.inl ⟨c, hc, run_end fK1 e ex⟩)⟩
          · skip
            have hlt := k_lt (n := aN A) ei (by rw [runI_o (by decide) (by decide)]; exact hm1.1) (by omega) (by omega) c_36
            have hx := k_ix ei (show i < 7 by omega) (by decide)
            have hSi := RestS_fr (I' := runI I1 (hrA A (setA A c) v) i) hS (fun a k h1 h2 => runI_o (by omega) (by omega)) (fun _ _ _ _ => rfl)
            refine pw_aload_n h 0 d_X7_run_39 rfl ?_
            refine pw_getR (j := 45) 7 h d_X7_run_40 fd_RX7_55 (by assumption) rfl (by assumption) ?_
            refine pw_iload_n h 3 d_X7_run_43 rfl ?_
            refine pw_callV (As := [.int _]) h d_X7_run_44 mf_X5_pushOf mi_X5_pushOf ml_RX7_192 ⟨by decide, by decide, by decide⟩ (by assumption) rfl rfl (Nat.le_of_ble_eq_true rfl) trivial (c_X5_pushOf hQ0 hx (rs_seat (okA_S a hst) hSi _ hlt)) ?_
            refine PKk.ret ?_
            refine pw_aload_n h 0 d_X7_run_47 rfl ?_
            refine pw_getR (j := 45) 7 h d_X7_run_48 fd_RX7_55 (by assumption) rfl (by assumption) ?_
            refine pw_getR (j := 46) 5 h d_X7_run_51 fd_RX7_195 (by assumption) rfl (by assumption) ?_
            refine pw_getL 0 h d_X7_run_54 fd_RX7_196 (by assumption) rfl ?_
            refine pw_callS (As := [.long _, .long _]) h d_X7_run_57 mf_X7_cut st_yX7_cut ml_RX7_282 ⟨by decide, by decide, by decide⟩ rfl rfl (Nat.le_of_ble_eq_true rfl) c_X7_cut ?_
            refine PKk.ret ?_
            refine pw_l2i h d_X7_run_60 ?_
            refine pw_nmI (fun v4_61 e4_61 => ?_)
            refine pw_istore (lv' := [(4, .int v4_61), (0, .ref 0), (1, .int v), (2, .int x), (3, .int y)]) h d_X7_run_61 _ hml (by decide) rfl ?_
            have e4 : v4_61 * v = (hrA A (setA A c) v) i := by rw [e4_61]; exact hr_ok a hSi h2 hlt v
            refine pw_aload_n h 1 d_X7_run_63 rfl ?_
            refine pw_getR (j := 1) 7 h d_X7_run_64 fd_RX7_12 (by assumption) rfl (by assumption) ?_
            refine pw_iload_n h 4 d_X7_run_67 rfl ?_
            refine pw_iload h 0 d_X7_run_68 rfl ?_
            refine pw_iload_n h 2 d_X7_run_70 rfl ?_
            refine pw_imul h d_X7_run_71 ?_
            refine pw_callV (As := [.int _, .int _]) h d_X7_run_72 mf_X2_wears mi_X2_wears ml_RX7_286 ⟨by decide, by decide, by decide⟩ (by assumption) rfl rfl (Nat.le_of_ble_eq_true rfl) trivial (c_X2_wears hL0 ei (by omega) _) ?_
            refine PKk.ret ?_
            refine pw_if_eq 81 h d_X7_run_75 (by decide) (fun c_75 => ?_) (fun c_75 => ?_)
            · skip
              rw [bI_1] at c_75
              have hl : lessB I1 (hrA A (setA A c) v) i = false := by rw [runI_k, runI_k, e4] at c_75; exact c_75
              obtain ⟨v3_81, e3_81⟩ : ∃ z : Int32, z = y + (1) := ⟨_, rfl⟩
              refine pw_iinc (lv' := [(3, .int v3_81), (4, .int v4_61), (0, .ref 0), (1, .int v), (2, .int x)]) v3_81 h d_X7_run_81 4 rfl e3_81.symm _ hml (by decide) rfl ?_
              refine pw_goto 28 h d_X7_run_84 (by decide) ?_
              refine PW.perm [2, 3, 4, 0] rfl ?_
              refine pw_mem ?_ rfl rfl (ih (i + 1) x v3_81 (by omega) (by omega) (k_up e3_81 ei) (by simp only [cntS]; first | (rw [if_pos hl, e2_78, ex]; exact nI_u _) | (rw [if_neg (by rw [hl]; decide), ex])))
              rw [runI_k, runI_k]
              exact runI_s e4
            · skip
              rw [bI_1, Bool.not_eq_false] at c_75
              have hl : lessB I1 (hrA A (setA A c) v) i = true := by rw [runI_k, runI_k, e4] at c_75; exact c_75
              obtain ⟨v2_78, e2_78⟩ : ∃ z : Int32, z = x + (1) := ⟨_, rfl⟩
              refine pw_iinc (lv' := [(2, .int v2_78), (4, .int v4_61), (0, .ref 0), (1, .int v), (3, .int y)]) v2_78 h d_X7_run_78 3 rfl e2_78.symm _ hml (by decide) rfl ?_
              obtain ⟨v3_81, e3_81⟩ : ∃ z : Int32, z = y + (1) := ⟨_, rfl⟩
              refine pw_iinc (lv' := [(3, .int v3_81), (2, .int v2_78), (4, .int v4_61), (0, .ref 0), (1, .int v)]) v3_81 h d_X7_run_81 4 rfl e3_81.symm _ hml (by decide) rfl ?_
              refine pw_goto 28 h d_X7_run_84 (by decide) ?_
              refine PW.perm [3, 4, 1, 0] rfl ?_
              refine pw_mem ?_ rfl rfl (ih (i + 1) v2_78 v3_81 (by omega) (by omega) (k_up e3_81 ei) (by simp only [cntS]; first | (rw [if_pos hl, e2_78, ex]; exact nI_u _) | (rw [if_neg (by rw [hl]; decide), ex])))
              rw [runI_k, runI_k]
              exact runI_s e4
      refine PW.perm [2, 3, 1, 0] rfl ?_
      refine pw_mem runI_0 rfl rfl (cut_28 (aN A + 1) 0 v2_25 v3_27 (by omega) (by omega) e3_27 e2_25)
    · skip
      rw [bI_1] at c_18
      refine pw_bipush (x := (-2)) h d_X7_run_21 (by decide) ?_
      refine pw_iret h hr d_X7_run_23 rfl (by decide) (by decide) ?_
      exact ⟨rfl, rfl, frBL_K fL1, ifA_t c_8 (Or.inr ⟨hb2 c_18, rfl, frB_K fK1, hre1⟩)⟩
  · skip
    rw [bI_1] at c_8
    refine pw_iconst (x := (-1)) h d_X7_run_11 (by decide) ?_
    refine pw_iret h hr d_X7_run_12 rfl (by decide) (by decide) ?_
    exact ⟨rfl, rfl, frBL_0, ifA_f c_8 ⟨rfl, frB_0, hr0⟩⟩
