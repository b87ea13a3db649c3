set_option maxHeartbeats 4000000 in
set_option maxRecDepth 100000 in
theorem c_X7_goesThrough {sh : Sh} {I : IM} {L : LM} {R : RM} (hCl : ClsF sh R) {A : LA} (hm : CLm I A) (a : okA A) {b st fr to : Nat} (hB : BeamF sh R b) (hb : 12 < b) {v x y : Int32} (hst : st < 4) (ev : v = nI st) (ex : x = nI fr) (ey : y = nI to) (hf13 : fr ≤ 13) (ht13 : to ≤ 13) : PMet M_X7_goesThrough [.ref 0, .ref b, .int v, .int x, .int y] sh I L R (gthP sh I L R A b st fr to) := by
  refine PMet.of mf_X7_goesThrough (Nat.le_of_ble_eq_true rfl) ?_
  intro X h hr hml
  have hml : (xc X).maxLocals = 6 := hml
  have h : PXok X RX7 cX7_goesThrough 4 0 0 := h
  have hr : PXr X (some .boolean) "goesThrough" _ 0 0 := hr
  have hCl := hCl
  obtain ⟨hC, hB21, hB33, hQ, hPl⟩ := id hCl
  have hC0 := hC
  obtain ⟨k0, r0, r1, r2, r4, r5, r6, r7, r8, r13, r15, r16, hL, k7, r7s, k8s, k12, k20, r20s, hSs, k71, k72⟩ := hC
  have hL0 := hL
  obtain ⟨f0, f1, f2, f3, f4, f5, g1, g2, g3, g4, g5⟩ := hL
  have hQ0 := hQ
  obtain ⟨q0, q1, hB45, q13, q14, q15, p2, p3, p4⟩ := id hQ
  have hn := hm.1
  have h6 := a.1
  have k46 := hB45.1
  have k21 := hB21.1
  have k33 := hB33.1
  have hB0 := hB
  obtain ⟨bf0, bf1, bf2, -⟩ := id hB
  have hsx : px_ix v 4 st := k_ix ev hst (by decide)
  show PW X 0 [(0, .ref 0), (1, .ref b), (2, .int v), (3, .int x), (4, .int y)] [] sh I L R 0 0
  refine pw_aload_n h 1 d_X7_goesThrough_0 rfl ?_
  refine pw_aload_n h 0 d_X7_goesThrough_1 rfl ?_
  refine pw_getR (j := 1) 7 h d_X7_goesThrough_2 fd_RX7_12 (by assumption) rfl (by assumption) ?_
  refine pw_getI 2 h d_X7_goesThrough_5 fd_RX7_129 (by assumption) rfl ?_
  refine pw_callV (As := [.int _]) h d_X7_goesThrough_8 mf_X0_start mi_X0_start ml_RX7_221 ⟨by decide, by decide, by decide⟩ (by assumption) rfl rfl (Nat.le_of_ble_eq_true rfl) trivial (c_X0_start hB0 _) ?_
  intro ret1 sh1 I1 L1 R1 hp1
  obtain ⟨e0, e1, eI, eL, eR⟩ := hp1
  subst e0
  have e1 := e1.symm
  have eR := eR.symm
  subst e1
  subst eR
  refine ⟨rfl, ?_⟩
  have hb1 : BmI I1 b (gsB A fr to) (aQ A) (hgt A st) 0 := bm_0 (by rw [eI, u2_s])
  have fI1 : frBm b I I1 := fun a k c1 c2 c3 => by rw [eI]; unfold u2; rw [if_neg (by omega)]
  have hL1 : L1 = u2 L b 5 (I 1 6).toInt64 := eL
  clear eI eL
  refine pw_iconst (x := 0) h d_X7_goesThrough_11 (by decide) ?_
  refine pw_nmI (fun v5_12 e5_12 => ?_)
  refine pw_istore (lv' := [(5, .int v5_12), (0, .ref 0), (1, .ref b), (2, .int v), (3, .int x), (4, .int y)]) h d_X7_goesThrough_12 _ hml (by decide) rfl ?_
  have cut_14 : ∀ (N i : Nat) (i5 : Int32) (I2 : IM) (L2 : LM), aN A < i + N → i ≤ aN A → i5 = nI i → frBm b I I2 → L2 = u2 L b 5 (I 1 6).toInt64 → BmI I2 b (gsB A fr to) (aQ A) (hgt A st) i → PW X 14 [(0, .ref 0), (1, .ref b), (2, .int v), (3, .int x), (4, .int y), (5, .int i5)] [] sh I2 L2 R 0 0 := by
    intro N
    induction N with
    | zero => intros; omega
    | succ N ih =>
      intro i i5 I2 L2 hN hi ei fI2 hL2 hb2
      have hm2 : CLm I2 A := CLm_Bm hm hb fI2
      refine pw_iload h 5 d_X7_goesThrough_14 rfl ?_
      refine pw_aload_n h 0 d_X7_goesThrough_16 rfl ?_
      refine pw_getR (j := 1) 7 h d_X7_goesThrough_17 fd_RX7_12 (by assumption) rfl (by assumption) ?_
      refine pw_getI 2 h d_X7_goesThrough_20 fd_RX7_105 (by assumption) rfl ?_
      refine pw_icmp_ge 82 h d_X7_goesThrough_23 (by decide) (fun c_23 => ?_) (fun c_23 => ?_)
      · skip
        have hge := k_ge ei hm2.1 (by omega) (by omega) c_23
        have e : i = aN A := by omega
        rw [e] at hb2
        have hle := cntS_le (s := gsB A fr to) (aN A)
        refine pw_aload_n h 1 d_X7_goesThrough_82 rfl ?_
        refine pw_getI 0 h d_X7_goesThrough_83 fd_RX7_327 (by assumption) rfl ?_
        refine pw_iconst (x := 2) h d_X7_goesThrough_86 (by decide) ?_
        refine pw_icmp_ge 92 h d_X7_goesThrough_87 (by decide) (fun c_87 => ?_) (fun c_87 => ?_)
        · skip
          have h2 : 2 ≤ cntS (gsB A fr to) (aN A) := k_ge hb2.1 (n := 2) rfl (by omega) (by omega) c_87
          refine pw_aload_n h 1 d_X7_goesThrough_92 rfl ?_
          refine pw_aload_n h 0 d_X7_goesThrough_93 rfl ?_
          refine pw_getR (j := 1) 7 h d_X7_goesThrough_94 fd_RX7_12 (by assumption) rfl (by assumption) ?_
          refine pw_getR (j := 6) 2 h d_X7_goesThrough_97 fd_RX7_126 (by assumption) rfl (by assumption) ?_
          refine pw_iload_n h 3 d_X7_goesThrough_100 rfl ?_
          refine pw_iload h 4 d_X7_goesThrough_101 rfl ?_
          refine pw_callV (As := [.ref 6, .int _, .int _]) h d_X7_goesThrough_103 mf_X0_carry mi_X0_carry ml_RX7_228 ⟨by decide, by decide, by decide⟩ (by assumption) rfl rfl (Nat.le_of_ble_eq_true rfl) trivial (c_X0_carry hB0 (w := 6) f5 _ _) ?_
          intro ret4 sh4 I4 L4 R4 hp4
          obtain ⟨e0, e1, eI, eL, eR⟩ := hp4
          subst e0
          have e1 := e1.symm
          have eR := eR.symm
          subst e1
          subst eR
          refine ⟨rfl, ?_⟩
          have hL4 := eL
          have hI4 := eI.symm
          subst hI4
          clear eI eL
          refine pw_aload_n h 1 d_X7_goesThrough_106 rfl ?_
          refine pw_callV (As := []) h d_X7_goesThrough_107 mf_X0_solve mi_X0_solve ml_RX7_232 ⟨by decide, by decide, by decide⟩ (by assumption) rfl rfl (Nat.le_of_ble_eq_true rfl) trivial (c_X0_solve hB0 (n := cntS (gsB A fr to) (aN A)) (pl := lyN (gsB A fr to) (aQ A) (aN A)) hb2.1 (by have := cntS_le (s := gsB A fr to) (aN A); omega) (fun k hk => bm_ix hb2 a.2.1 hk)) ?_
          refine PKk.ret ?_
          refine pw_iconst (x := 1) h d_X7_goesThrough_110 (by decide) ?_
          refine pw_iret h hr d_X7_goesThrough_111 (by decide) (by decide) (by decide) ?_
          rw [hL4, ex, ey]
          exact gth_end a fI2 hL2 hm hm2 hb2 h2 hf13 ht13
        · skip
          have h2 : ¬ 2 ≤ cntS (gsB A fr to) (aN A) := fun q => by have := k_lt hb2.1 (n := 2) rfl (by omega) (by omega) c_87; omega
          refine pw_iconst (x := 0) h d_X7_goesThrough_90 (by decide) ?_
          refine pw_iret h hr d_X7_goesThrough_91 (by decide) (by decide) (by decide) ?_
          exact ⟨rfl, rfl, fI2, fun c k hc => by rw [hL2, u2_n1 (by omega)], false, rfl, fun _ => h2, fun q => (by cases q)⟩
      · skip
        have hlt := k_lt ei hm2.1 (by omega) (by omega) c_23
        have hx6 := k_ix ei (show i < 6 by omega) (by decide)
        have hq13 := a.2.1.1 i hlt
        refine pw_aload_n h 0 d_X7_goesThrough_26 rfl ?_
        refine pw_getR (j := 1) 7 h d_X7_goesThrough_27 fd_RX7_12 (by assumption) rfl (by assumption) ?_
        refine pw_getR (j := 2) 2 h d_X7_goesThrough_30 fd_RX7_166 (by assumption) rfl (by assumption) ?_
        refine pw_iload h 5 d_X7_goesThrough_33 rfl ?_
        refine pw_iald h d_X7_goesThrough_35 (by assumption) (by assumption) ?_
        refine pw_iload_n h 3 d_X7_goesThrough_36 rfl ?_
        refine pw_icmp_lt 76 h d_X7_goesThrough_37 (by decide) (fun c_37 => ?_) (fun c_37 => ?_)
        · skip
          have hsel : gsB A fr to i = false := decide_eq_false (fun q => by have := k_lt2 (hm2.2.1 i hlt) ex (by omega) (by omega) c_37; omega)
          obtain ⟨v5_76, e5_76⟩ : ∃ z : Int32, z = i5 + (1) := ⟨_, rfl⟩
          refine pw_iinc (lv' := [(5, .int v5_76), (0, .ref 0), (1, .ref b), (2, .int v), (3, .int x), (4, .int y)]) v5_76 h d_X7_goesThrough_76 5 rfl e5_76.symm _ hml (by decide) rfl ?_
          refine pw_goto 14 h d_X7_goesThrough_79 (by decide) ?_
          refine PW.perm [1, 2, 3, 4, 5, 0] rfl ?_
          first
            | exact ih (i + 1) v5_76 _ _ (by omega) (by omega) (k_up e5_76 ei) fI3 hL3 hb3
            | exact ih (i + 1) v5_76 _ _ (by omega) (by omega) (k_up e5_76 ei) fI2 hL2 (bm_skip hb2 hsel)
        · skip
          refine pw_aload_n h 0 d_X7_goesThrough_40 rfl ?_
          refine pw_getR (j := 1) 7 h d_X7_goesThrough_41 fd_RX7_12 (by assumption) rfl (by assumption) ?_
          refine pw_getR (j := 2) 2 h d_X7_goesThrough_44 fd_RX7_166 (by assumption) rfl (by assumption) ?_
          refine pw_iload h 5 d_X7_goesThrough_47 rfl ?_
          refine pw_iald h d_X7_goesThrough_49 (by assumption) (by assumption) ?_
          refine pw_iload h 4 d_X7_goesThrough_50 rfl ?_
          refine pw_icmp_ge 76 h d_X7_goesThrough_52 (by decide) (fun c_52 => ?_) (fun c_52 => ?_)
          · skip
            have hsel : gsB A fr to i = false := decide_eq_false (fun q => by have := k_ge (hm2.2.1 i hlt) ey (by omega) (by omega) c_52; omega)
            obtain ⟨v5_76, e5_76⟩ : ∃ z : Int32, z = i5 + (1) := ⟨_, rfl⟩
            refine pw_iinc (lv' := [(5, .int v5_76), (0, .ref 0), (1, .ref b), (2, .int v), (3, .int x), (4, .int y)]) v5_76 h d_X7_goesThrough_76 5 rfl e5_76.symm _ hml (by decide) rfl ?_
            refine pw_goto 14 h d_X7_goesThrough_79 (by decide) ?_
            refine PW.perm [1, 2, 3, 4, 5, 0] rfl ?_
            first
              | exact ih (i + 1) v5_76 _ _ (by omega) (by omega) (k_up e5_76 ei) fI3 hL3 hb3
              | exact ih (i + 1) v5_76 _ _ (by omega) (by omega) (k_up e5_76 ei) fI2 hL2 (bm_skip hb2 hsel)
          · skip
            have hsel : gsB A fr to i = true := decide_eq_true ⟨k_ge2 (hm2.2.1 i hlt) ex (by omega) (by omega) c_37, k_lt (hm2.2.1 i hlt) ey (by omega) (by omega) c_52⟩
            refine pw_aload_n h 1 d_X7_goesThrough_55 rfl ?_
            refine pw_aload_n h 0 d_X7_goesThrough_56 rfl ?_
            refine pw_getR (j := 1) 7 h d_X7_goesThrough_57 fd_RX7_12 (by assumption) rfl (by assumption) ?_
            refine pw_getR (j := 2) 2 h d_X7_goesThrough_60 fd_RX7_166 (by assumption) rfl (by assumption) ?_
            refine pw_iload h 5 d_X7_goesThrough_63 rfl ?_
            refine pw_iald h d_X7_goesThrough_65 (by assumption) (by assumption) ?_
            refine pw_aload_n h 0 d_X7_goesThrough_66 rfl ?_
            refine pw_iload_n h 2 d_X7_goesThrough_67 rfl ?_
            refine pw_iload h 5 d_X7_goesThrough_68 rfl ?_
            refine pw_callV (As := [.int _, .int _]) h d_X7_goesThrough_70 mf_X7_standing mi_X7_standing ml_RX7_324 ⟨by decide, by decide, by decide⟩ (by assumption) rfl rfl (Nat.le_of_ble_eq_true rfl) trivial (c_X7_standing hC0 (s' := st) (b' := i) (p' := aQ A i) hsx hx6 (cl_q hm2 a i hlt)) ?_
            refine PKk.ret ?_
            refine pw_callV (As := [.int _, .int _]) h d_X7_goesThrough_73 mf_X0_add mi_X0_add ml_RX7_224 ⟨by decide, by decide, by decide⟩ (by assumption) rfl rfl (Nat.le_of_ble_eq_true rfl) trivial (c_X0_add hB0 (n := cntS (gsB A fr to) i) hb2.1 (by have := cntS_le (s := gsB A fr to) i; omega) _ _) ?_
            intro ret3 sh3 I3 L3 R3 hp3
            obtain ⟨e0, e1, eI, eL, eR⟩ := hp3
            subst e0
            have e1 := e1.symm
            have eR := eR.symm
            subst e1
            subst eR
            refine ⟨rfl, ?_⟩
            have hb3 := bm_add hb2 hsel (hm2.2.1 i hlt) (cl_h hm2 a hst hlt)
            have fI3 := frBm_t fI2 (bm_fr (I := I2) (b := b) (m := cntS (gsB A fr to) i) (p := I2 2 i) (v := I2 3 i + I2 (8 + st) (aQ A i)) (z := nI (cntS (gsB A fr to) i + 1)))
            rw [if_pos (by have := cntS_le (s := gsB A fr to) i; omega)] at eI
            rw [← eI] at hb3 fI3
            have hL3 : L3 = u2 L b 5 (I 1 6).toInt64 := eL.trans hL2
            clear eI eL
            obtain ⟨v5_76, e5_76⟩ : ∃ z : Int32, z = i5 + (1) := ⟨_, rfl⟩
            refine pw_iinc (lv' := [(5, .int v5_76), (0, .ref 0), (1, .ref b), (2, .int v), (3, .int x), (4, .int y)]) v5_76 h d_X7_goesThrough_76 5 rfl e5_76.symm _ hml (by decide) rfl ?_
            refine pw_goto 14 h d_X7_goesThrough_79 (by decide) ?_
            refine PW.perm [1, 2, 3, 4, 5, 0] rfl ?_
            first
              | exact ih (i + 1) v5_76 _ _ (by omega) (by omega) (k_up e5_76 ei) fI3 hL3 hb3
              | exact ih (i + 1) v5_76 _ _ (by omega) (by omega) (k_up e5_76 ei) fI2 hL2 (bm_skip hb2 hsel)
  refine PW.perm [1, 2, 3, 4, 5, 0] rfl ?_
  exact cut_14 (aN A + 1) 0 v5_12 _ _ (by omega) (by omega) e5_12 fI1 hL1 hb1
