set_option maxHeartbeats 4000000 in
set_option maxRecDepth 100000 in
theorem c_X7_comesToRest {sh : Sh} {I : IM} {L : LM} {R : RM} (hCl : ClsF sh R) {A : LA} (hm : CLm I A) (a : okA A) (hr0 : CRest I L A) {s : Nat} {v : Int32} (hs : s < 4) (ev : v = nI s) : PMet M_X7_comesToRest [.ref 0, .int v] sh I L R (ctrP sh I L R A s) := by
  refine PMet.of mf_X7_comesToRest (Nat.le_of_ble_eq_true rfl) ?_
  intro X h hr hml
  have hml : (xc X).maxLocals = 2 := hml
  have h : PXok X RX7 cX7_comesToRest 6 0 0 := h
  have hr : PXr X (some .boolean) "comesToRest" _ 0 0 := hr
  have hCl := hCl
  obtain ⟨hC, hB21, hB33, hQ, hPl⟩ := id hCl
  have hC0 := hC
  obtain ⟨k0, r0, r1, r2, r4, r5, r6, r7, r8, r13, r15, r16, hL, k7, r7s, k8s, k12, k20, r20s, hSs, k71, k72⟩ := hC
  have hL0 := hL
  obtain ⟨f0, f1, f2, f3, f4, f5, g1, g2, g3, g4, g5⟩ := hL
  have hQ0 := hQ
  obtain ⟨q0, q1, hB45, q13, q14, q15, p2, p3, p4⟩ := id hQ
  have hn := hm.1
  have h6 := a.1
  have hsx : px_ix v 4 s := k_ix ev hs (by decide)
  show PW X 0 [(0, .ref 0), (1, .int v)] [] sh I L R 0 0
  refine pw_aload_n h 0 d_X7_comesToRest_0 rfl ?_
  refine pw_getI 7 h d_X7_comesToRest_1 fd_RX7_59 (by assumption) rfl ?_
  refine pw_iload_n h 1 d_X7_comesToRest_4 rfl ?_
  refine pw_icmp_eq 66 h d_X7_comesToRest_5 (by decide) (fun c_5 => ?_) (fun c_5 => ?_)
  · skip
    have h9 : I 0 9 = nI s := by rw [← ev]; first | exact c_5 | exact c_5.symm
    have hcr := ctr_a hr0 hs h9
    have fKe : frK I I := frK_0
    have fLe : frKL L L := frKL_0
    refine pw_aload_n h 0 d_X7_comesToRest_66 rfl ?_
    refine pw_getI 7 h d_X7_comesToRest_67 fd_RX7_62 (by assumption) rfl ?_
    refine pw_if_ne 77 h d_X7_comesToRest_70 (by decide) (fun c_70 => ?_) (fun c_70 => ?_)
    · skip
      refine pw_iconst (x := 0) h d_X7_comesToRest_77 (by decide) ?_
      refine pw_iret h hr d_X7_comesToRest_78 (by decide) (by decide) (by decide) ?_
      first | exact ctr_end h9 fKe fLe hcr (Or.inl ⟨rfl, c_70⟩) | exact ctr_end h9 fKe fLe hcr (Or.inr ⟨rfl, c_70⟩)
    · skip
      refine pw_iconst (x := 1) h d_X7_comesToRest_73 (by decide) ?_
      refine pw_goto 78 h d_X7_comesToRest_74 (by decide) ?_
      refine pw_iret h hr d_X7_comesToRest_78 (by decide) (by decide) (by decide) ?_
      first | exact ctr_end h9 fKe fLe hcr (Or.inl ⟨rfl, c_70⟩) | exact ctr_end h9 fKe fLe hcr (Or.inr ⟨rfl, c_70⟩)
  · skip
    refine pw_aload_n h 0 d_X7_comesToRest_8 rfl ?_
    refine pw_getR (j := 45) 7 h d_X7_comesToRest_9 fd_RX7_55 (by assumption) rfl (by assumption) ?_
    refine pw_aload_n h 0 d_X7_comesToRest_12 rfl ?_
    refine pw_getR (j := 1) 7 h d_X7_comesToRest_13 fd_RX7_12 (by assumption) rfl (by assumption) ?_
    refine pw_getI 2 h d_X7_comesToRest_16 fd_RX7_129 (by assumption) rfl ?_
    refine pw_aload_n h 0 d_X7_comesToRest_19 rfl ?_
    refine pw_getR (j := 1) 7 h d_X7_comesToRest_20 fd_RX7_12 (by assumption) rfl (by assumption) ?_
    refine pw_getR (j := 6) 2 h d_X7_comesToRest_23 fd_RX7_126 (by assumption) rfl (by assumption) ?_
    refine pw_callV (As := [.int _, .ref 6]) h d_X7_comesToRest_26 mf_X5_start mi_X5_start ml_RX7_247 ⟨by decide, by decide, by decide⟩ (by assumption) rfl rfl (Nat.le_of_ble_eq_true rfl) trivial (c_X5_start hQ0 (w := 6) f5 _) ?_
    intro ret1 sh1 I1 L1 R1 hp1
    obtain ⟨e0, e1, eI, eL, eR⟩ := hp1
    subst e0
    have e1 := e1.symm
    have eR := eR.symm
    subst e1
    subst eR
    refine ⟨rfl, ?_⟩
    have hR1 : RestI I1 L1 45 0 (aQ A) (hgt A s) (wgt A) (stf A) := by rw [eI, eL]; exact st_rest hm a _ _
    have fK1 : frK I I1 := by rw [eI]; exact st_frK
    have fL1 : frKL L L1 := by rw [eL]; exact st_frL
    have hm1 : CLm I1 A := CLm_K hm fK1
    clear eI eL
    refine pw_aload_n h 0 d_X7_comesToRest_29 rfl ?_
    refine pw_iload_n h 1 d_X7_comesToRest_30 rfl ?_
    refine pw_iconst (x := 0) h d_X7_comesToRest_31 (by decide) ?_
    refine pw_aload_n h 0 d_X7_comesToRest_32 rfl ?_
    refine pw_getR (j := 1) 7 h d_X7_comesToRest_33 fd_RX7_12 (by assumption) rfl (by assumption) ?_
    refine pw_getI 2 h d_X7_comesToRest_36 fd_RX7_105 (by assumption) rfl ?_
    refine pw_callV (As := [.int _, .int _, .int _]) h d_X7_comesToRest_39 mf_X7_putBearings mi_X7_putBearings ml_RX7_250 ⟨by decide, by decide, by decide⟩ (by assumption) rfl rfl (Nat.le_of_ble_eq_true rfl) trivial (c_X7_putBearings hC0 hQ0 (s' := s) (fr := 0) (t := aN A) (n0 := 0) hsx rfl (hm1.1) (Nat.zero_le _) h6 hR1.1 (by omega) (cl_q hm1 a)) ?_
    intro ret2 sh2 I2 L2 R2 hp2
    obtain ⟨e0, e1, eI, eL, eR⟩ := hp2
    subst e0
    have e1 := e1.symm
    have eR := eR.symm
    subst e1
    subst eR
    refine ⟨rfl, ?_⟩
    have hR2 : RestI I2 L2 45 (aN A) (aQ A) (hgt A s) (wgt A) (stf A) := by rw [eI, eL]; exact pb_all hm1 a hs hR1
    have fK2 : frK I I2 := frK_t fK1 (by rw [eI]; exact frK_pb)
    have fL2 : frKL L L2 := by rw [eL]; exact fL1
    clear eI eL
    refine pw_aload_n h 0 d_X7_comesToRest_42 rfl ?_
    refine pw_aload_n h 0 d_X7_comesToRest_43 rfl ?_
    refine pw_getR (j := 45) 7 h d_X7_comesToRest_44 fd_RX7_55 (by assumption) rfl (by assumption) ?_
    refine pw_callV (As := []) h d_X7_comesToRest_47 mf_X5_settle mi_X5_settle ml_RX7_257 ⟨by decide, by decide, by decide⟩ (by assumption) rfl rfl (Nat.le_of_ble_eq_true rfl) trivial (c_X5_settle hQ0 (okA_S a hs) hR2) ?_
    intro ret3 sh3 I3 L3 R3 hp3
    obtain ⟨e1, eR, f3, f4, hres⟩ := hp3
    have e1 := e1.symm
    have eR := eR.symm
    subst e1
    subst eR
    obtain ⟨bb, hbb, hb1, hb2⟩ := or_b hres
    subst hbb
    have fK3 : frK I I3 := frK_t fK2 (frK_I f3)
    have fL3 : frKL L L3 := frKL_t fL2 (frK_L f4)
    refine ⟨rfl, ?_⟩
    refine pw_if_ne 57 h d_X7_comesToRest_50 (by decide) (fun c_50 => ?_) (fun c_50 => ?_)
    · skip
      rw [bI_1, Bool.not_eq_false] at c_50
      have hcr := CRs_b1 (v := v) (hb1 c_50)
      have h9 : u2 (u2 I3 0 10 0) 0 9 v 0 9 = nI s := by rw [u2_s, ev]
      have fKe := frK_u (x := 0) (v := v) fK3
      have fLe := fL3
      refine pw_iconst (x := 0) h d_X7_comesToRest_57 (by decide) ?_
      refine pw_putI 7 h d_X7_comesToRest_58 fd_RX7_62 (by assumption) rfl rfl rfl rfl ?_
      refine pw_aload_n h 0 d_X7_comesToRest_61 rfl ?_
      refine pw_iload_n h 1 d_X7_comesToRest_62 rfl ?_
      refine pw_putI 7 h d_X7_comesToRest_63 fd_RX7_59 (by assumption) rfl rfl rfl rfl ?_
      refine pw_aload_n h 0 d_X7_comesToRest_66 rfl ?_
      refine pw_getI 7 h d_X7_comesToRest_67 fd_RX7_62 (by assumption) rfl ?_
      refine pw_if_ne 77 h d_X7_comesToRest_70 (by decide) (fun c_70 => ?_) (fun c_70 => ?_)
      · skip
        refine pw_iconst (x := 0) h d_X7_comesToRest_77 (by decide) ?_
        refine pw_iret h hr d_X7_comesToRest_78 (by decide) (by decide) (by decide) ?_
        first | exact ctr_end h9 fKe fLe hcr (Or.inl ⟨rfl, c_70⟩) | exact ctr_end h9 fKe fLe hcr (Or.inr ⟨rfl, c_70⟩)
      · skip
        refine pw_iconst (x := 1) h d_X7_comesToRest_73 (by decide) ?_
        refine pw_goto 78 h d_X7_comesToRest_74 (by decide) ?_
        refine pw_iret h hr d_X7_comesToRest_78 (by decide) (by decide) (by decide) ?_
        first | exact ctr_end h9 fKe fLe hcr (Or.inl ⟨rfl, c_70⟩) | exact ctr_end h9 fKe fLe hcr (Or.inr ⟨rfl, c_70⟩)
    · skip
      rw [bI_1] at c_50
      have hcr := CRs_b2 (I3 := I3) (L3 := L3) (v := v) (hb2 c_50)
      have h9 : u2 (u2 I3 0 10 1) 0 9 v 0 9 = nI s := by rw [u2_s, ev]
      have fKe := frK_u (x := 1) (v := v) fK3
      have fLe := fL3
      refine pw_iconst (x := 1) h d_X7_comesToRest_53 (by decide) ?_
      refine pw_goto 58 h d_X7_comesToRest_54 (by decide) ?_
      refine pw_putI 7 h d_X7_comesToRest_58 fd_RX7_62 (by assumption) rfl rfl rfl rfl ?_
      refine pw_aload_n h 0 d_X7_comesToRest_61 rfl ?_
      refine pw_iload_n h 1 d_X7_comesToRest_62 rfl ?_
      refine pw_putI 7 h d_X7_comesToRest_63 fd_RX7_59 (by assumption) rfl rfl rfl rfl ?_
      refine pw_aload_n h 0 d_X7_comesToRest_66 rfl ?_
      refine pw_getI 7 h d_X7_comesToRest_67 fd_RX7_62 (by assumption) rfl ?_
      refine pw_if_ne 77 h d_X7_comesToRest_70 (by decide) (fun c_70 => ?_) (fun c_70 => ?_)
      · skip
        refine pw_iconst (x := 0) h d_X7_comesToRest_77 (by decide) ?_
        refine pw_iret h hr d_X7_comesToRest_78 (by decide) (by decide) (by decide) ?_
        first | exact ctr_end h9 fKe fLe hcr (Or.inl ⟨rfl, c_70⟩) | exact ctr_end h9 fKe fLe hcr (Or.inr ⟨rfl, c_70⟩)
      · skip
        refine pw_iconst (x := 1) h d_X7_comesToRest_73 (by decide) ?_
        refine pw_goto 78 h d_X7_comesToRest_74 (by decide) ?_
        refine pw_iret h hr d_X7_comesToRest_78 (by decide) (by decide) (by decide) ?_
        first | exact ctr_end h9 fKe fLe hcr (Or.inl ⟨rfl, c_70⟩) | exact ctr_end h9 fKe fLe hcr (Or.inr ⟨rfl, c_70⟩)
