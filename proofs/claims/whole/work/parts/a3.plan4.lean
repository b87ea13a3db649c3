set_option maxHeartbeats 4000000 in
set_option maxRecDepth 100000 in
theorem c_X3_holds {sh : Sh} {I : IM} {L : LM} {R : RM} (hP : PlanF sh R 61) (hl1 : R 61 2 = some 1) (hL : LineF sh R 1) {A : LA} (hm : CLm I A) (a : okA A) (h4 : aN A ≤ 4) (h2n : 2 ≤ aN A) {mv : Nat → Int} (hok : okM A mv) {lo hi : Int} {g : Nat → Bool} (hc : PLc I L A lo hi g) (hmv : ∀ k, k < aN A → (I 69 k).toInt = mv k) {st j : Nat} (hst : st < 4) (hgs : g st = true) (hj : j < ordK (aN A)) {sv tv : Int32} (ej : sv = nI j) (et : tv = nI st) : PMet M_X3_holds [.ref 61, .int sv, .int tv] sh I L R (hldP sh I L R A mv st j) := by
  refine PMet.of mf_X3_holds (Nat.le_of_ble_eq_true rfl) ?_
  intro X h hr hml
  have hml : (xc X).maxLocals = 7 := hml
  have h : PXok X RX3 cX3_holds 1 0 0 := h
  have hr : PXr X (some .boolean) "holds" _ 0 0 := hr
  have hP0 := hP
  obtain ⟨p0, p1, p2, p3, p4, p5, p6, p7, p8, p9, r1, r7, r8, r9, r10, r11, r12, r13, r14⟩ := id hP
  obtain ⟨f0, f1, f2, f3, f4, f5, g1, g2, g3, g4, g5⟩ := id hL
  have hn := hm.1
  have h6 := a.1
  have ho1 : ordK (aN A) ≤ 11 := (ord_ok (aN A) h4).1
  show PW X 0 [(0, .ref 61), (1, .int sv), (2, .int tv)] [] sh I L R 0 0
  refine pw_iconst (x := 0) h d_X3_holds_0 (by decide) ?_
  refine pw_nmI (fun v3_1 e3_1 => ?_)
  refine pw_istore_n (lv' := [(3, .int v3_1), (0, .ref 61), (1, .int sv), (2, .int tv)]) h d_X3_holds_1 rfl _ hml (by decide) rfl ?_
  have cut_2 : ∀ (N b : Nat) (y : Int32) (L2 : LM), aN A < b + N → b ≤ aN A → y = nI b → fr68 L L2 → mgsL L2 A mv st j b → (∀ i, i < b → 0 ≤ mgQ (sN (aN A) j) (aQ A) (hgt (mvA A mv) st) (wgt A) (stf A) (aN A) i) → PW X 2 [(0, .ref 61), (1, .int sv), (2, .int tv), (3, .int y)] [] sh I L2 R 0 0 := by
    intro N
    induction N with
    | zero => intros; omega
    | succ N ih =>
      intro b y L2 hN hb ey f2 hg2 hnn
      have hc2 := PLc_68 hc f2
      refine pw_iload_n h 3 d_X3_holds_2 rfl ?_
      refine pw_aload_n h 0 d_X3_holds_3 rfl ?_
      refine pw_getR (j := 1) 3 h d_X3_holds_4 fd_RX3_19 (by assumption) rfl (by assumption) ?_
      refine pw_getI 2 h d_X3_holds_7 fd_RX3_61 (by assumption) rfl ?_
      refine pw_icmp_ge 102 h d_X3_holds_10 (by decide) (fun c_10 => ?_) (fun c_10 => ?_)
      · skip
        have hge := k_ge ey hn (by omega) (by omega) c_10
        have e9 : b = aN A := by omega
        rw [e9] at hg2 hnn
        refine pw_iconst (x := 1) h d_X3_holds_102 (by decide) ?_
        refine pw_iret h hr d_X3_holds_103 (by decide) (by decide) (by decide) ?_
        exact ⟨rfl, rfl, rfl, f2, Or.inl ⟨rfl, (lie_mv a hok h4 hst hj).mp hnn, hg2⟩⟩
      · skip
        have hbl := k_lt ey hn (by omega) (by omega) c_10
        have hx6 := k_ix ey (show b < 4 by omega) (by decide)
        have hxb : px_ix ((sv * 4 + tv) * 4 + y) 176 ((j * 4 + st) * 4 + b) := by rw [ix_4 ej et, ey, nI_add]; exact px_ix_nI (by omega) (by decide)
        refine pw_aload_n h 0 d_X3_holds_13 rfl ?_
        refine pw_getR (j := 66) 3 h d_X3_holds_14 fd_RX3_46 (by assumption) rfl (by assumption) ?_
        refine pw_iload_n h 1 d_X3_holds_17 rfl ?_
        refine pw_iconst (x := 4) h d_X3_holds_18 (by decide) ?_
        refine pw_imul h d_X3_holds_19 ?_
        refine pw_iload_n h 2 d_X3_holds_20 rfl ?_
        refine pw_iadd h d_X3_holds_21 ?_
        refine pw_iconst (x := 4) h d_X3_holds_22 (by decide) ?_
        refine pw_imul h d_X3_holds_23 ?_
        refine pw_iload_n h 3 d_X3_holds_24 rfl ?_
        refine pw_iadd h d_X3_holds_25 ?_
        refine pw_lald h d_X3_holds_26 (by assumption) hxb ?_
        refine pw_nmL (fun v4_27 e4_27 => ?_)
        refine pw_lstore (lv' := [(4, .long v4_27), (0, .ref 61), (1, .int sv), (2, .int tv), (3, .int y)]) h d_X3_holds_27 _ hml (by decide) rfl ?_
        refine pw_iconst (x := 0) h d_X3_holds_29 (by decide) ?_
        refine pw_nmI (fun v6_30 e6_30 => ?_)
        refine pw_istore (lv' := [(6, .int v6_30), (4, .long v4_27), (0, .ref 61), (1, .int sv), (2, .int tv), (3, .int y)]) h d_X3_holds_30 _ hml (by decide) rfl ?_
        have cut_32 : ∀ (N z : Nat) (m : Int64) (z6 : Int32), aN A < z + N → z ≤ aN A → z6 = nI z → RI m (mgQ (sN (aN A) j) (aQ A) (hgK A mv st z) (wgt A) (stf A) (aN A) b) → PW X 32 [(0, .ref 61), (1, .int sv), (2, .int tv), (3, .int y), (4, .long m), (6, .int z6)] [] sh I L2 R 0 0 := by
          intro N
          induction N with
          | zero => intros; omega
          | succ N ihz =>
            intro z m z6 hNz hz ez hm6
            refine pw_iload h 5 d_X3_holds_32 rfl ?_
            refine pw_aload_n h 0 d_X3_holds_34 rfl ?_
            refine pw_getR (j := 1) 3 h d_X3_holds_35 fd_RX3_19 (by assumption) rfl (by assumption) ?_
            refine pw_getI 2 h d_X3_holds_38 fd_RX3_61 (by assumption) rfl ?_
            refine pw_icmp_ge 79 h d_X3_holds_41 (by decide) (fun c_41 => ?_) (fun c_41 => ?_)
            · skip
              have hge := k_ge ez hn (by omega) (by omega) c_41
              have e9 : z = aN A := by omega
              rw [e9] at hm6
              have hex := mg_get a hok h4 hst hj hbl hm6
              refine pw_lload h 4 d_X3_holds_79 rfl ?_
              refine pw_lconst (x := 0) h d_X3_holds_81 (by decide) ?_
              refine pw_lcmp h d_X3_holds_82 ?_
              refine pw_if_ge 88 h d_X3_holds_83 (by decide) (fun c_83 => ?_) (fun c_83 => ?_)
              · skip
                rw [lz_ge] at c_83
                have hge0 := (int_nn hex).mp c_83
                refine pw_aload_n h 0 d_X3_holds_88 rfl ?_
                refine pw_getR (j := 68) 3 h d_X3_holds_89 fd_RX3_52 (by assumption) rfl (by assumption) ?_
                refine pw_iload_n h 3 d_X3_holds_92 rfl ?_
                refine pw_lload h 4 d_X3_holds_93 rfl ?_
                refine pw_last h d_X3_holds_95 (by assumption) (by assumption) ?_
                obtain ⟨v3_96, e3_96⟩ : ∃ z : Int32, z = y + (1) := ⟨_, rfl⟩
                refine pw_iinc (lv' := [(3, .int v3_96), (0, .ref 61), (1, .int sv), (2, .int tv), (4, .long m), (6, .int z6)]) v3_96 h d_X3_holds_96 3 rfl e3_96.symm _ hml (by decide) rfl ?_
                refine pw_goto 2 h d_X3_holds_99 (by decide) ?_
                refine PW.perm [1, 2, 3, 0] rfl ?_
                refine ih (b + 1) v3_96 _ (by omega) (by omega) (k_up e3_96 ey) (fr68_t f2 (fun c k q => u2_n1 q)) (fun i hi => ?_) (fun i hi => ?_)
                · by_cases q : i = b
                  · rw [q, u2_s]; exact hex
                  · rw [u2_n2 q]; exact hg2 i (by omega)
                · by_cases q : i = b
                  · rw [q]; exact hge0
                  · exact hnn i (by omega)
              · skip
                rw [lz_ge] at c_83
                have hlt0 : ¬ lieS (sN (aN A) j) (aQ A) (hgt (mvA A mv) st) (wgt A) (stf A) (aN A) := fun q => c_83 ((int_nn hex).mpr ((lie_mv a hok h4 hst hj).mpr q b hbl))
                refine pw_iconst (x := 0) h d_X3_holds_86 (by decide) ?_
                refine pw_iret h hr d_X3_holds_87 rfl (by decide) (by decide) ?_
                exact ⟨rfl, rfl, rfl, f2, Or.inr ⟨rfl, hlt0⟩⟩
            · skip
              have hzl := k_lt ez hn (by omega) (by omega) c_41
              have hxz := k_ix ez (show z < 4 by omega) (by decide)
              have hxg : px_ix ((sv * 4 + z6) * 4 + y) 176 ((j * 4 + z) * 4 + b) := by rw [ix_4 ej ez, ey, nI_add]; exact px_ix_nI (by omega) (by decide)
              refine pw_lload h 4 d_X3_holds_44 rfl ?_
              refine pw_aload_n h 0 d_X3_holds_46 rfl ?_
              refine pw_getR (j := 69) 3 h d_X3_holds_47 fd_RX3_55 (by assumption) rfl (by assumption) ?_
              refine pw_iload h 5 d_X3_holds_50 rfl ?_
              refine pw_iald h d_X3_holds_52 (by assumption) (by assumption) ?_
              refine pw_i2l h d_X3_holds_53 ?_
              refine pw_aload_n h 0 d_X3_holds_54 rfl ?_
              refine pw_getR (j := 67) 3 h d_X3_holds_55 fd_RX3_49 (by assumption) rfl (by assumption) ?_
              refine pw_iload_n h 1 d_X3_holds_58 rfl ?_
              refine pw_iconst (x := 4) h d_X3_holds_59 (by decide) ?_
              refine pw_imul h d_X3_holds_60 ?_
              refine pw_iload h 5 d_X3_holds_61 rfl ?_
              refine pw_iadd h d_X3_holds_63 ?_
              refine pw_iconst (x := 4) h d_X3_holds_64 (by decide) ?_
              refine pw_imul h d_X3_holds_65 ?_
              refine pw_iload_n h 3 d_X3_holds_66 rfl ?_
              refine pw_iadd h d_X3_holds_67 ?_
              refine pw_lald h d_X3_holds_68 (by assumption) hxg ?_
              refine pw_lmul h d_X3_holds_69 ?_
              refine pw_ladd h d_X3_holds_70 ?_
              refine pw_nmL (fun v4_71 e4_71 => ?_)
              refine pw_lstore (lv' := [(4, .long v4_71), (0, .ref 61), (1, .int sv), (2, .int tv), (3, .int y), (6, .int z6)]) h d_X3_holds_71 _ hml (by decide) rfl ?_
              obtain ⟨v6_73, e6_73⟩ : ∃ z : Int32, z = z6 + (1) := ⟨_, rfl⟩
              refine pw_iinc (lv' := [(6, .int v6_73), (4, .long v4_71), (0, .ref 61), (1, .int sv), (2, .int tv), (3, .int y)]) v6_73 h d_X3_holds_73 5 rfl e6_73.symm _ hml (by decide) rfl ?_
              refine pw_goto 32 h d_X3_holds_76 (by decide) ?_
              refine PW.perm [2, 3, 4, 5, 1, 0] rfl ?_
              refine ihz (z + 1) v4_71 v6_73 (by omega) (by omega) (k_up e6_73 ez) ?_
              rw [e4_71, ← mg_step, ← hmv z hzl]
              exact RI_add hm6 (RI_mul (RI_32 _) (hc2.2.2.1 z hzl j hj b hbl))
        refine PW.perm [2, 3, 4, 5, 1, 0] rfl ?_
        exact cut_32 (aN A + 1) 0 v4_27 v6_30 (by omega) (by omega) e6_30 (by rw [e4_27, hgK_0]; exact hc2.2.2.2.1 st hst hgs j hj b hbl)
  refine PW.perm [1, 2, 3, 0] rfl ?_
  exact cut_2 (aN A + 1) 0 v3_1 _ (by omega) (by omega) e3_1 fr68_0 (fun i hi => absurd hi (Nat.not_lt_zero _)) (fun i hi => absurd hi (Nat.not_lt_zero _))

set_option maxHeartbeats 4000000 in
set_option maxRecDepth 100000 in
theorem c_X3_isWithinBounds {sh : Sh} {I : IM} {L : LM} {R : RM} (hP : PlanF sh R 61) (hl1 : R 61 2 = some 1) (hL : LineF sh R 1) {A : LA} (hm : CLm I A) (a : okA A) (h4 : aN A ≤ 4) (h2n : 2 ≤ aN A) {mv : Nat → Int} (hok : okM A mv) {lo hi : Int} {g : Nat → Bool} (hc : PLc I L A lo hi g) (hlo : 0 ≤ lo ∧ lo ≤ 600) (hhi : 0 ≤ hi ∧ hi ≤ 600) {st j : Nat} (hst : st < 4) (hj : j < ordK (aN A)) {sv : Int32} (ej : sv = nI j) (hg : mgsL L A mv st j (aN A)) : PMet M_X3_isWithinBounds [.ref 61, .int sv] sh I L R (finP sh I L R (wbS (mvA A mv) st (sN (aN A) j) lo hi)) := by
  refine PMet.of mf_X3_isWithinBounds (Nat.le_of_ble_eq_true rfl) ?_
  intro X h hr hml
  have hml : (xc X).maxLocals = 5 := hml
  have h : PXok X RX3 cX3_isWithinBounds 1 0 0 := h
  have hr : PXr X (some .boolean) "isWithinBounds" _ 0 0 := hr
  have hP0 := hP
  obtain ⟨p0, p1, p2, p3, p4, p5, p6, p7, p8, p9, r1, r7, r8, r9, r10, r11, r12, r13, r14⟩ := id hP
  obtain ⟨f0, f1, f2, f3, f4, f5, g1, g2, g3, g4, g5⟩ := id hL
  have hn := hm.1
  have h6 := a.1
  have ho1 : ordK (aN A) ≤ 11 := (ord_ok (aN A) h4).1
  have hD := wb_D a hok h4 hc hj
  have hxj := k_ix ej (show j < 11 by omega) (by decide)
  have h64 := (hc.2.1 j hj).1
  have hwl := wb_lo a hok h4 hc hj hc.2.2.2.2.1 hlo.1 hlo.2
  have hwh := wb_lo a hok h4 hc hj hc.2.2.2.2.2 hhi.1 hhi.2
  show PW X 0 [(0, .ref 61), (1, .int sv)] [] sh I L R 0 0
  refine pw_iconst (x := 0) h d_X3_isWithinBounds_0 (by decide) ?_
  refine pw_nmI (fun v2_1 e2_1 => ?_)
  refine pw_istore_n (lv' := [(2, .int v2_1), (0, .ref 61), (1, .int sv)]) h d_X3_isWithinBounds_1 rfl _ hml (by decide) rfl ?_
  have cut_2 : ∀ (N b : Nat) (y : Int32), aN A < b + N → b ≤ aN A → y = nI b → (∀ i, i < b → (lo : Rat) ≤ qLd (mvA A mv) st (sN (aN A) j) i ∧ qLd (mvA A mv) st (sN (aN A) j) i ≤ (hi : Rat)) → PW X 2 [(0, .ref 61), (1, .int sv), (2, .int y)] [] sh I L R 0 0 := by
    intro N
    induction N with
    | zero => intros; omega
    | succ N ih =>
      intro b y hN hb ey hnn
      refine pw_iload_n h 2 d_X3_isWithinBounds_2 rfl ?_
      refine pw_aload_n h 0 d_X3_isWithinBounds_3 rfl ?_
      refine pw_getR (j := 1) 3 h d_X3_isWithinBounds_4 fd_RX3_19 (by assumption) rfl (by assumption) ?_
      refine pw_getI 2 h d_X3_isWithinBounds_7 fd_RX3_61 (by assumption) rfl ?_
      refine pw_icmp_ge 78 h d_X3_isWithinBounds_10 (by decide) (fun c_10 => ?_) (fun c_10 => ?_)
      · skip
        have hge := k_ge ey hn (by omega) (by omega) c_10
        have e9 : b = aN A := by omega
        rw [e9] at hnn
        refine pw_iconst (x := 1) h d_X3_isWithinBounds_78 (by decide) ?_
        refine pw_iret h hr d_X3_isWithinBounds_79 (by decide) (by decide) (by decide) ?_
        exact ⟨rfl, rfl, rfl, fr68_0, true, rfl, fun _ => hnn, fun _ => rfl⟩
      · skip
        have hbl := k_lt ey hn (by omega) (by omega) c_10
        have hx6 := k_ix ey (show b < 4 by omega) (by decide)
        have hps := wb_psh hg hbl hD.1
        have hbit := bit_at (aN A) h4 (sN (aN A) j) b hbl
        refine pw_aload_n h 0 d_X3_isWithinBounds_13 rfl ?_
        refine pw_getR (j := 64) 3 h d_X3_isWithinBounds_14 fd_RX3_39 (by assumption) rfl (by assumption) ?_
        refine pw_iload_n h 1 d_X3_isWithinBounds_17 rfl ?_
        refine pw_iald h d_X3_isWithinBounds_18 (by assumption) (by assumption) ?_
        refine pw_iload_n h 2 d_X3_isWithinBounds_19 rfl ?_
        refine pw_ishr h d_X3_isWithinBounds_20 ?_
        refine pw_iconst (x := 1) h d_X3_isWithinBounds_21 (by decide) ?_
        refine pw_iand h d_X3_isWithinBounds_22 ?_
        refine pw_iconst (x := 1) h d_X3_isWithinBounds_23 (by decide) ?_
        refine pw_icmp_ne 36 h d_X3_isWithinBounds_24 (by decide) (fun c_24 => ?_) (fun c_24 => ?_)
        · skip
          rw [h64, ey] at c_24
          have hsb : sN (aN A) j b = false := Bool.not_eq_true _ ▸ (fun q => c_24 (hbit.mpr q))
          have epx := hps.2 hsb
          refine pw_lconst (x := 0) h d_X3_isWithinBounds_36 (by decide) ?_
          refine pw_nmL (fun v3_37 e3_37 => ?_)
          refine pw_lstore_n (lv' := [(3, .long v3_37), (0, .ref 61), (1, .int sv), (2, .int y)]) h d_X3_isWithinBounds_37 rfl _ hml (by decide) rfl ?_
          have epv : (v3_37.toInt : Rat) = qLd (mvA A mv) st (sN (aN A) j) b * ((L 65 j).toInt : Rat) := by rw [e3_37]; exact epx
          refine pw_lload_n h 0 d_X3_isWithinBounds_38 rfl ?_
          refine pw_aload_n h 1 d_X3_isWithinBounds_39 rfl ?_
          refine pw_getL 3 h d_X3_isWithinBounds_40 fd_RX3_23 (by assumption) rfl ?_
          refine pw_aload_n h 1 d_X3_isWithinBounds_43 rfl ?_
          refine pw_getR (j := 65) 3 h d_X3_isWithinBounds_44 fd_RX3_42 (by assumption) rfl (by assumption) ?_
          refine pw_iload_n h 2 d_X3_isWithinBounds_47 rfl ?_
          refine pw_lald h d_X3_isWithinBounds_48 (by assumption) (by assumption) ?_
          refine pw_lmul h d_X3_isWithinBounds_49 ?_
          refine pw_lcmp h d_X3_isWithinBounds_50 ?_
          refine pw_if_lt 70 h d_X3_isWithinBounds_51 (by decide) (fun c_51 => ?_) (fun c_51 => ?_)
          · skip
            rw [lc_lt, ← Rat.intCast_lt_intCast, hwl, epv, Rat.mul_lt_mul_right hD.2] at c_51
            have hbad : ¬ wbS (mvA A mv) st (sN (aN A) j) lo hi := fun q => Rat.not_le.mpr c_51 (q b hbl).1
            refine pw_iconst (x := 0) h d_X3_isWithinBounds_70 (by decide) ?_
            refine pw_iret h hr d_X3_isWithinBounds_71 rfl (by decide) (by decide) ?_
            exact ⟨rfl, rfl, rfl, fr68_0, false, rfl, fun q => (by cases q), fun q => absurd q hbad⟩
          · skip
            rw [lc_lt, ← Rat.intCast_lt_intCast, hwl, epv, Rat.mul_lt_mul_right hD.2] at c_51
            have hyl := Rat.not_lt.mp c_51
            refine pw_lload_n h 0 d_X3_isWithinBounds_54 rfl ?_
            refine pw_aload_n h 1 d_X3_isWithinBounds_55 rfl ?_
            refine pw_getL 3 h d_X3_isWithinBounds_56 fd_RX3_27 (by assumption) rfl ?_
            refine pw_aload_n h 1 d_X3_isWithinBounds_59 rfl ?_
            refine pw_getR (j := 65) 3 h d_X3_isWithinBounds_60 fd_RX3_42 (by assumption) rfl (by assumption) ?_
            refine pw_iload_n h 2 d_X3_isWithinBounds_63 rfl ?_
            refine pw_lald h d_X3_isWithinBounds_64 (by assumption) (by assumption) ?_
            refine pw_lmul h d_X3_isWithinBounds_65 ?_
            refine pw_lcmp h d_X3_isWithinBounds_66 ?_
            refine pw_if_le 72 h d_X3_isWithinBounds_67 (by decide) (fun c_67 => ?_) (fun c_67 => ?_)
            · skip
              rw [lc_le, ← Rat.intCast_le_intCast, hwh, epv, mul_le_c hD.2] at c_67
              have hyh := c_67
              obtain ⟨v2_72, e2_72⟩ : ∃ z : Int32, z = y + (1) := ⟨_, rfl⟩
              refine pw_iinc (lv' := [(2, .int v2_72), (3, .long v3_37), (0, .ref 61), (1, .int sv)]) v2_72 h d_X3_isWithinBounds_72 3 rfl e2_72.symm _ hml (by decide) rfl ?_
              refine pw_goto 2 h d_X3_isWithinBounds_75 (by decide) ?_
              refine PW.perm [2, 3, 0] rfl ?_
              refine ih (b + 1) v2_72 (by omega) (by omega) (k_up e2_72 ey) (fun i hi => ?_)
              by_cases q : i = b
              · rw [q]; exact ⟨hyl, hyh⟩
              · exact hnn i (by omega)
            · skip
              rw [lc_le, ← Rat.intCast_le_intCast, hwh, epv, mul_le_c hD.2] at c_67
              have hbad : ¬ wbS (mvA A mv) st (sN (aN A) j) lo hi := fun q => c_67 (q b hbl).2
              refine pw_iconst (x := 0) h d_X3_isWithinBounds_70 (by decide) ?_
              refine pw_iret h hr d_X3_isWithinBounds_71 rfl (by decide) (by decide) ?_
              exact ⟨rfl, rfl, rfl, fr68_0, false, rfl, fun q => (by cases q), fun q => absurd q hbad⟩
        · skip
          rw [h64, ey] at c_24
          have hsb : sN (aN A) j b = true := hbit.mp c_24
          have epx := hps.1 hsb
          refine pw_aload_n h 0 d_X3_isWithinBounds_27 rfl ?_
          refine pw_getR (j := 68) 3 h d_X3_isWithinBounds_28 fd_RX3_52 (by assumption) rfl (by assumption) ?_
          refine pw_iload_n h 2 d_X3_isWithinBounds_31 rfl ?_
          refine pw_lald h d_X3_isWithinBounds_32 (by assumption) (by assumption) ?_
          refine pw_goto 37 h d_X3_isWithinBounds_33 (by decide) ?_
          refine pw_nmL (fun v3_37 e3_37 => ?_)
          refine pw_lstore_n (lv' := [(3, .long v3_37), (0, .ref 61), (1, .int sv), (2, .int y)]) h d_X3_isWithinBounds_37 rfl _ hml (by decide) rfl ?_
          have epv : (v3_37.toInt : Rat) = qLd (mvA A mv) st (sN (aN A) j) b * ((L 65 j).toInt : Rat) := by rw [e3_37]; exact epx
          refine pw_lload_n h 0 d_X3_isWithinBounds_38 rfl ?_
          refine pw_aload_n h 1 d_X3_isWithinBounds_39 rfl ?_
          refine pw_getL 3 h d_X3_isWithinBounds_40 fd_RX3_23 (by assumption) rfl ?_
          refine pw_aload_n h 1 d_X3_isWithinBounds_43 rfl ?_
          refine pw_getR (j := 65) 3 h d_X3_isWithinBounds_44 fd_RX3_42 (by assumption) rfl (by assumption) ?_
          refine pw_iload_n h 2 d_X3_isWithinBounds_47 rfl ?_
          refine pw_lald h d_X3_isWithinBounds_48 (by assumption) (by assumption) ?_
          refine pw_lmul h d_X3_isWithinBounds_49 ?_
          refine pw_lcmp h d_X3_isWithinBounds_50 ?_
          refine pw_if_lt 70 h d_X3_isWithinBounds_51 (by decide) (fun c_51 => ?_) (fun c_51 => ?_)
          · skip
            rw [lc_lt, ← Rat.intCast_lt_intCast, hwl, epv, Rat.mul_lt_mul_right hD.2] at c_51
            have hbad : ¬ wbS (mvA A mv) st (sN (aN A) j) lo hi := fun q => Rat.not_le.mpr c_51 (q b hbl).1
            refine pw_iconst (x := 0) h d_X3_isWithinBounds_70 (by decide) ?_
            refine pw_iret h hr d_X3_isWithinBounds_71 rfl (by decide) (by decide) ?_
            exact ⟨rfl, rfl, rfl, fr68_0, false, rfl, fun q => (by cases q), fun q => absurd q hbad⟩
          · skip
            rw [lc_lt, ← Rat.intCast_lt_intCast, hwl, epv, Rat.mul_lt_mul_right hD.2] at c_51
            have hyl := Rat.not_lt.mp c_51
            refine pw_lload_n h 0 d_X3_isWithinBounds_54 rfl ?_
            refine pw_aload_n h 1 d_X3_isWithinBounds_55 rfl ?_
            refine pw_getL 3 h d_X3_isWithinBounds_56 fd_RX3_27 (by assumption) rfl ?_
            refine pw_aload_n h 1 d_X3_isWithinBounds_59 rfl ?_
            refine pw_getR (j := 65) 3 h d_X3_isWithinBounds_60 fd_RX3_42 (by assumption) rfl (by assumption) ?_
            refine pw_iload_n h 2 d_X3_isWithinBounds_63 rfl ?_
            refine pw_lald h d_X3_isWithinBounds_64 (by assumption) (by assumption) ?_
            refine pw_lmul h d_X3_isWithinBounds_65 ?_
            refine pw_lcmp h d_X3_isWithinBounds_66 ?_
            refine pw_if_le 72 h d_X3_isWithinBounds_67 (by decide) (fun c_67 => ?_) (fun c_67 => ?_)
            · skip
              rw [lc_le, ← Rat.intCast_le_intCast, hwh, epv, mul_le_c hD.2] at c_67
              have hyh := c_67
              obtain ⟨v2_72, e2_72⟩ : ∃ z : Int32, z = y + (1) := ⟨_, rfl⟩
              refine pw_iinc (lv' := [(2, .int v2_72), (3, .long v3_37), (0, .ref 61), (1, .int sv)]) v2_72 h d_X3_isWithinBounds_72 3 rfl e2_72.symm _ hml (by decide) rfl ?_
              refine pw_goto 2 h d_X3_isWithinBounds_75 (by decide) ?_
              refine PW.perm [2, 3, 0] rfl ?_
              refine ih (b + 1) v2_72 (by omega) (by omega) (k_up e2_72 ey) (fun i hi => ?_)
              by_cases q : i = b
              · rw [q]; exact ⟨hyl, hyh⟩
              · exact hnn i (by omega)
            · skip
              rw [lc_le, ← Rat.intCast_le_intCast, hwh, epv, mul_le_c hD.2] at c_67
              have hbad : ¬ wbS (mvA A mv) st (sN (aN A) j) lo hi := fun q => c_67 (q b hbl).2
              refine pw_iconst (x := 0) h d_X3_isWithinBounds_70 (by decide) ?_
              refine pw_iret h hr d_X3_isWithinBounds_71 rfl (by decide) (by decide) ?_
              exact ⟨rfl, rfl, rfl, fr68_0, false, rfl, fun q => (by cases q), fun q => absurd q hbad⟩
  refine PW.perm [1, 2, 0] rfl ?_
  exact cut_2 (aN A + 1) 0 v2_1 (by omega) (by omega) e2_1 (fun i hi => absurd hi (Nat.not_lt_zero _))

set_option maxHeartbeats 4000000 in
set_option maxRecDepth 100000 in
theorem c_X3_fitsIn {sh : Sh} {I : IM} {L : LM} {R : RM} (hP : PlanF sh R 61) (hl1 : R 61 2 = some 1) (hL : LineF sh R 1) {A : LA} (hm : CLm I A) (a : okA A) (h4 : aN A ≤ 4) (h2n : 2 ≤ aN A) {mv : Nat → Int} (hok : okM A mv) {lo hi : Int} {g : Nat → Bool} (hc : PLc I L A lo hi g) (hmv : ∀ k, k < aN A → (I 69 k).toInt = mv k) (hlo : 0 ≤ lo ∧ lo ≤ 600) (hhi : 0 ≤ hi ∧ hi ≤ 600) {st : Nat} (hst : st < 4) (hgs : g st = true) {tv : Int32} (et : tv = nI st) : PMet M_X3_fitsIn [.ref 61, .int tv] sh I L R (finP sh I L R (fitO A mv lo hi st)) := by
  refine PMet.of mf_X3_fitsIn (Nat.le_of_ble_eq_true rfl) ?_
  intro X h hr hml
  have hml : (xc X).maxLocals = 3 := hml
  have h : PXok X RX3 cX3_fitsIn 2 0 0 := h
  have hr : PXr X (some .boolean) "fitsIn" _ 0 0 := hr
  have hP0 := hP
  obtain ⟨p0, p1, p2, p3, p4, p5, p6, p7, p8, p9, r1, r7, r8, r9, r10, r11, r12, r13, r14⟩ := id hP
  obtain ⟨f0, f1, f2, f3, f4, f5, g1, g2, g3, g4, g5⟩ := id hL
  have hn := hm.1
  have h6 := a.1
  have ho1 : ordK (aN A) ≤ 11 := (ord_ok (aN A) h4).1
  show PW X 0 [(0, .ref 61), (1, .int tv)] [] sh I L R 0 0
  refine pw_iconst (x := 0) h d_X3_fitsIn_0 (by decide) ?_
  refine pw_nmI (fun v2_1 e2_1 => ?_)
  refine pw_istore_n (lv' := [(2, .int v2_1), (0, .ref 61), (1, .int tv)]) h d_X3_fitsIn_1 rfl _ hml (by decide) rfl ?_
  have cut_2 : ∀ (N j : Nat) (y : Int32) (L2 : LM), ordK (aN A) < j + N → j ≤ ordK (aN A) → y = nI j → fr68 L L2 → (∀ i, i < j → ¬ lieS (sN (aN A) i) (aQ A) (hgt (mvA A mv) st) (wgt A) (stf A) (aN A)) → PW X 2 [(0, .ref 61), (1, .int tv), (2, .int y)] [] sh I L2 R 0 0 := by
    intro N
    induction N with
    | zero => intros; omega
    | succ N ih =>
      intro j y L2 hN hjK ej f2 hno
      have hc2 := PLc_68 hc f2
      refine pw_iload_n h 2 d_X3_fitsIn_2 rfl ?_
      refine pw_aload_n h 0 d_X3_fitsIn_3 rfl ?_
      refine pw_getI 3 h d_X3_fitsIn_4 fd_RX3_33 (by assumption) rfl ?_
      refine pw_icmp_ge 31 h d_X3_fitsIn_7 (by decide) (fun c_7 => ?_) (fun c_7 => ?_)
      · skip
        have hge := k_ge ej hc2.1.1 (by omega) (by omega) c_7
        have e9 : j = ordK (aN A) := by omega
        rw [e9] at hno
        refine pw_iconst (x := 0) h d_X3_fitsIn_31 (by decide) ?_
        refine pw_iret h hr d_X3_fitsIn_32 rfl (by decide) (by decide) ?_
        exact ⟨rfl, rfl, rfl, f2, false, rfl, fun q => (by cases q), fun q => absurd q (fitO_no h4 hno)⟩
      · skip
        have hj := k_lt ej hc2.1.1 (by omega) (by omega) c_7
        refine pw_aload_n h 0 d_X3_fitsIn_10 rfl ?_
        refine pw_iload_n h 2 d_X3_fitsIn_11 rfl ?_
        refine pw_iload_n h 1 d_X3_fitsIn_12 rfl ?_
        refine pw_callV (As := [.int _, .int _]) h d_X3_fitsIn_13 mf_X3_holds mi_X3_holds ml_RX3_136 ⟨by decide, by decide, by decide⟩ (by assumption) rfl rfl (Nat.le_of_ble_eq_true rfl) trivial (c_X3_holds hP0 hl1 hL hm a h4 h2n hok hc2 hmv hst hgs hj ej et) ?_
        intro ret3 sh3 I3 L3 R3 hp3
        obtain ⟨e1, eR, eI, f3, hres⟩ := hp3
        have e1 := e1.symm
        have eR := eR.symm
        have eI := eI.symm
        subst e1
        subst eR
        subst eI
        obtain ⟨bb, hbb, hb1, hb2⟩ := or_b hres
        subst hbb
        refine ⟨rfl, ?_⟩
        refine pw_if_eq 25 h d_X3_fitsIn_16 (by decide) (fun c_16 => ?_) (fun c_16 => ?_)
        · skip
          rw [bI_1] at c_16
          obtain ⟨v2_25, e2_25⟩ : ∃ z : Int32, z = y + (1) := ⟨_, rfl⟩
          refine pw_iinc (lv' := [(2, .int v2_25), (0, .ref 61), (1, .int tv)]) v2_25 h d_X3_fitsIn_25 2 rfl e2_25.symm _ hml (by decide) rfl ?_
          refine pw_goto 2 h d_X3_fitsIn_28 (by decide) ?_
          refine PW.perm [1, 2, 0] rfl ?_
          refine ih (j + 1) v2_25 _ (by omega) (by omega) (k_up e2_25 ej) (fr68_t f2 f3) (fun i hi => ?_)
          by_cases q : i = j
          · rw [q]; exact hb2 c_16
          · exact hno i (by omega)
        · skip
          rw [bI_1, Bool.not_eq_false] at c_16
          refine pw_aload_n h 0 d_X3_fitsIn_19 rfl ?_
          refine pw_iload_n h 2 d_X3_fitsIn_20 rfl ?_
          refine pw_callV (As := [.int _]) h d_X3_fitsIn_21 mf_X3_isWithinBounds mi_X3_isWithinBounds ml_RX3_140 ⟨by decide, by decide, by decide⟩ (by assumption) rfl rfl (Nat.le_of_ble_eq_true rfl) trivial (c_X3_isWithinBounds hP0 hl1 hL hm a h4 h2n hok (PLc_68 hc2 f3) hlo hhi hst hj ej (hb1 c_16).2) ?_
          intro ret4 sh4 I4 L4 R4 hp4
          obtain ⟨e1, eR, eI, f4, b4, ebb, hb4⟩ := hp4
          have e1 := e1.symm
          have eR := eR.symm
          have eI := eI.symm
          subst e1
          subst eR
          subst eI
          subst ebb
          refine ⟨rfl, ?_⟩
          refine pw_iret h hr d_X3_fitsIn_24 (bI_n _ rfl) (by decide) (by decide) ?_
          exact ⟨rfl, rfl, rfl, fr68_t f2 (fr68_t f3 f4), b4, rfl, hb4.trans (fitO_j h4 hj (hb1 c_16).1 hno)⟩
  refine PW.perm [1, 2, 0] rfl ?_
  exact cut_2 (ordK (aN A) + 1) 0 v2_1 _ (by omega) (by omega) e2_1 fr68_0 (fun i hi => absurd hi (Nat.not_lt_zero _))

set_option maxHeartbeats 4000000 in
set_option maxRecDepth 100000 in
theorem c_X3_fitsInAll {sh : Sh} {I : IM} {L : LM} {R : RM} (hP : PlanF sh R 61) (hl1 : R 61 2 = some 1) (hL : LineF sh R 1) {A : LA} (hm : CLm I A) (a : okA A) (h4 : aN A ≤ 4) (h2n : 2 ≤ aN A) {mv : Nat → Int} (hok : okM A mv) {lo hi : Int} (v : Int32) (hc : PLc I L A lo hi (selM v)) (hmv : ∀ k, k < aN A → (I 69 k).toInt = mv k) (hlo : 0 ≤ lo ∧ lo ≤ 600) (hhi : 0 ≤ hi ∧ hi ≤ 600) : PMet M_X3_fitsInAll [.ref 61, .int v] sh I L R (finP sh I L R (fitP (mvA A mv) lo hi (selM v) 4)) := by
  refine PMet.of mf_X3_fitsInAll (Nat.le_of_ble_eq_true rfl) ?_
  intro X h hr hml
  have hml : (xc X).maxLocals = 3 := hml
  have h : PXok X RX3 cX3_fitsInAll 3 0 0 := h
  have hr : PXr X (some .boolean) "fitsInAll" _ 0 0 := hr
  have hP0 := hP
  obtain ⟨p0, p1, p2, p3, p4, p5, p6, p7, p8, p9, r1, r7, r8, r9, r10, r11, r12, r13, r14⟩ := id hP
  obtain ⟨f0, f1, f2, f3, f4, f5, g1, g2, g3, g4, g5⟩ := id hL
  have hn := hm.1
  have h6 := a.1
  have ho1 : ordK (aN A) ≤ 11 := (ord_ok (aN A) h4).1
  show PW X 0 [(0, .ref 61), (1, .int v)] [] sh I L R 0 0
  refine pw_iconst (x := 0) h d_X3_fitsInAll_0 (by decide) ?_
  refine pw_nmI (fun v2_1 e2_1 => ?_)
  refine pw_istore_n (lv' := [(2, .int v2_1), (0, .ref 61), (1, .int v)]) h d_X3_fitsInAll_1 rfl _ hml (by decide) rfl ?_
  have cut_2 : ∀ (N i : Nat) (y : Int32) (L2 : LM), 4 < i + N → i ≤ 4 → y = nI i → fr68 L L2 → fitP (mvA A mv) lo hi (selM v) i → PW X 2 [(0, .ref 61), (1, .int v), (2, .int y)] [] sh I L2 R 0 0 := by
    intro N
    induction N with
    | zero => intros; omega
    | succ N ih =>
      intro i y L2 hN hi4 ei f2 hfi
      have hc2 := PLc_68 hc f2
      refine pw_iload_n h 2 d_X3_fitsInAll_2 rfl ?_
      refine pw_iconst (x := 4) h d_X3_fitsInAll_3 (by decide) ?_
      refine pw_icmp_ge 32 h d_X3_fitsInAll_4 (by decide) (fun c_4 => ?_) (fun c_4 => ?_)
      · skip
        have hge := k_ge ei (n := 4) rfl (by omega) (by omega) c_4
        have e : i = 4 := by omega
        subst e
        refine pw_iconst (x := 1) h d_X3_fitsInAll_32 (by decide) ?_
        refine pw_iret h hr d_X3_fitsInAll_33 (by decide) (by decide) (by decide) ?_
        exact ⟨rfl, rfl, rfl, f2, true, rfl, fun _ => hfi, fun _ => rfl⟩
      · skip
        have hst := k_lt ei (n := 4) rfl (by omega) (by omega) c_4
        refine pw_iload_n h 1 d_X3_fitsInAll_7 rfl ?_
        refine pw_iload_n h 2 d_X3_fitsInAll_8 rfl ?_
        refine pw_ishr h d_X3_fitsInAll_9 ?_
        refine pw_iconst (x := 1) h d_X3_fitsInAll_10 (by decide) ?_
        refine pw_iand h d_X3_fitsInAll_11 ?_
        refine pw_iconst (x := 1) h d_X3_fitsInAll_12 (by decide) ?_
        refine pw_icmp_ne 26 h d_X3_fitsInAll_13 (by decide) (fun c_13 => ?_) (fun c_13 => ?_)
        · skip
          have hsel : selM v i = false := by rw [ei] at c_13; exact decide_eq_false c_13
          have hfit := fit_s hfi (fun q => by rw [hsel] at q; cases q)
          have g2 := f2
          obtain ⟨v2_26, e2_26⟩ : ∃ z : Int32, z = y + (1) := ⟨_, rfl⟩
          refine pw_iinc (lv' := [(2, .int v2_26), (0, .ref 61), (1, .int v)]) v2_26 h d_X3_fitsInAll_26 2 rfl e2_26.symm _ hml (by decide) rfl ?_
          refine pw_goto 2 h d_X3_fitsInAll_29 (by decide) ?_
          refine PW.perm [1, 2, 0] rfl ?_
          exact ih (i + 1) v2_26 _ (by omega) (by omega) (k_up e2_26 ei) g2 hfit
        · skip
          have hsel : selM v i = true := by rw [ei] at c_13; exact decide_eq_true c_13
          refine pw_aload_n h 0 d_X3_fitsInAll_16 rfl ?_
          refine pw_iload_n h 2 d_X3_fitsInAll_17 rfl ?_
          refine pw_callV (As := [.int _]) h d_X3_fitsInAll_18 mf_X3_fitsIn mi_X3_fitsIn ml_RX3_133 ⟨by decide, by decide, by decide⟩ (by assumption) rfl rfl (Nat.le_of_ble_eq_true rfl) trivial (c_X3_fitsIn hP0 hl1 hL hm a h4 h2n hok hc2 hmv hlo hhi hst hsel ei) ?_
          intro ret4 sh4 I4 L4 R4 hp4
          obtain ⟨e1, eR, eI, f4, b4, ebb, hb4⟩ := hp4
          have e1 := e1.symm
          have eR := eR.symm
          have eI := eI.symm
          subst e1
          subst eR
          subst eI
          subst ebb
          refine ⟨rfl, ?_⟩
          refine pw_if_ne 26 h d_X3_fitsInAll_21 (by decide) (fun c_21 => ?_) (fun c_21 => ?_)
          · skip
            rw [bI_1, Bool.not_eq_false] at c_21
            have hfit := fit_s hfi (fun _ => hb4.mp c_21)
            have g2 := fr68_t f2 f4
            obtain ⟨v2_26, e2_26⟩ : ∃ z : Int32, z = y + (1) := ⟨_, rfl⟩
            refine pw_iinc (lv' := [(2, .int v2_26), (0, .ref 61), (1, .int v)]) v2_26 h d_X3_fitsInAll_26 2 rfl e2_26.symm _ hml (by decide) rfl ?_
            refine pw_goto 2 h d_X3_fitsInAll_29 (by decide) ?_
            refine PW.perm [1, 2, 0] rfl ?_
            exact ih (i + 1) v2_26 _ (by omega) (by omega) (k_up e2_26 ei) g2 hfit
          · skip
            rw [bI_1] at c_21
            have hnf : ¬ fitP (mvA A mv) lo hi (selM v) 4 := fun q => by have := hb4.mpr (q i hst hsel); rw [this] at c_21; cases c_21
            refine pw_iconst (x := 0) h d_X3_fitsInAll_24 (by decide) ?_
            refine pw_iret h hr d_X3_fitsInAll_25 rfl (by decide) (by decide) ?_
            exact ⟨rfl, rfl, rfl, fr68_t f2 f4, false, rfl, fun q => (by cases q), fun q => absurd q hnf⟩
  refine PW.perm [1, 2, 0] rfl ?_
  exact cut_2 5 0 v2_1 _ (by omega) (by omega) e2_1 fr68_0 (fun s hs => absurd hs (Nat.not_lt_zero _))
