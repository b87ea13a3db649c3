set_option maxHeartbeats 4000000 in
set_option maxRecDepth 100000 in
theorem c_X4_readClause {sh : Sh} {I : IM} {L : LM} {R : RM} {T a : Nat} {D : DR} (hD : ReadF sh R 13 12) (hRD : RdI I T a D) : PMet M_X4_readClause [.ref 13] sh I L R (rdP sh I L R T (pCl (I 12) T a D)) := by
  refine PMet.of mf_X4_readClause (Nat.le_of_ble_eq_true rfl) ?_
  intro X h hr hml
  have hml : (xc X).maxLocals = 1 := hml
  have h : PXok X RX4 cX4_readClause 5 0 0 := h
  have hr : PXr X (some .boolean) "readClause" _ 0 0 := hr
  have hD0 := hD
  obtain ⟨q0, q1, hL, q3, q4, qn⟩ := id hD
  have hL0 := hL
  obtain ⟨f0, f1, f2, f3, f4, f5, g1, g2, g3, g4, g5⟩ := id hL
  have hT2 := hRD.2.2.2.1
  have hRi := hRD
  have fDi : frD I I := frD_0
  have fxi : I 12 = I 12 := rfl
  show PW X 0 [(0, .ref 13)] [] sh I L R 0 0
  refine pw_aload_n h 0 d_X4_readClause_0 rfl ?_
  refine pw_callV (As := []) h d_X4_readClause_1 mf_X4_skipBlanks mi_X4_skipBlanks ml_RX4_45 ⟨by decide, by decide, by decide⟩ (by assumption) rfl rfl (Nat.le_of_ble_eq_true rfl) trivial (c_X4_skipBlanks hD0 hRi.2.1 hRi.1 hT2 hRi.2.2.1) ?_
  intro ret0 sh0 I0 L0 R0 hp0
  obtain ⟨e0, e1, eI, eL, eR⟩ := hp0
  subst e0
  have e1 := e1.symm
  have eR := eR.symm
  have eL := eL.symm
  subst e1
  subst eR
  subst eL
  refine ⟨rfl, ?_⟩
  have hk0 := rd_skip hRi
  rw [← eI, fxi] at hk0
  have hR0 : RdI I0 T (skB (I 12) a T) D := hk0.1
  have fD0 : frD I I0 := frD_t fDi (frR_D hk0.2)
  have fx0 : I0 12 = I 12 := frD_f fD0
  clear eI
  refine pw_aload_n h 0 d_X4_readClause_4 rfl ?_
  refine pw_callV (As := []) h d_X4_readClause_5 mf_X4_next mi_X4_next ml_RX4_48 ⟨by decide, by decide, by decide⟩ (by assumption) rfl rfl (Nat.le_of_ble_eq_true rfl) trivial (c_X4_next hD0 hR0.2.1 hR0.1 hT2 hR0.2.2.1) ?_
  refine PKk.ret ?_
  rcases four_x (nxt (I0 12) (skB (I 12) a T) T) with hc | hc | hc | hc
  · skip
    refine pw_eqI (y := 98) hc ?_
    refine pw_lookup (off := 36) 44 h d_X4_readClause_8 (by decide) (by decide) (by decide) ?_
    rw [fx0] at hc
    have hlt := nxt_lt hc (by decide)
    have hlen := hRD.2.2.2.2.1.2.1
    refine pw_aload_n h 0 d_X4_readClause_44 rfl ?_
    refine pw_getR (j := 14) 4 h d_X4_readClause_45 fd_RX4_12 (by assumption) rfl (by assumption) ?_
    refine pw_getI 2 h d_X4_readClause_48 fd_RX4_52 (by assumption) rfl ?_
    refine pw_bipush (x := 6) h d_X4_readClause_51 (by decide) ?_
    refine pw_icmp_ge 63 h d_X4_readClause_53 (by decide) (fun c_53 => ?_) (fun c_53 => ?_)
    · skip
      have h6 : ¬ D.1.length < 6 := by have := k_ge (n := 6) hR0.2.2.2.2.2.1 rfl (by have := hR0.2.2.2.2.1.1.1; omega) (by omega) c_53; omega
      refine pw_aload_n h 0 d_X4_readClause_63 rfl ?_
      refine pw_aload_n h 0 d_X4_readClause_64 rfl ?_
      refine pw_getI 4 h d_X4_readClause_65 fd_RX4_26 (by assumption) rfl ?_
      refine pw_callV (As := [.int _]) h d_X4_readClause_68 mf_X4_fail mi_X4_fail ml_RX4_58 ⟨by decide, by decide, by decide⟩ (by assumption) rfl rfl (Nat.le_of_ble_eq_true rfl) trivial (c_X4_fail q0 _) ?_
      refine PKk.ret ?_
      refine pw_iret h hr d_X4_readClause_71 (by first | decide | exact bI_n _ rfl) (by decide) (by decide) ?_
      first
        | exact rd_end fD1 hb1 hb2 (by unfold pCl; rw [if_pos hc, if_pos h6])
        | exact ⟨rfl, rfl, rfl, frD_t fD0 (frR_D fail_fr), Or.inr ⟨rfl, by unfold pCl; rw [if_pos hc, if_neg h6], by unfold pCl; rw [if_pos hc, if_neg h6, u2_s]; exact hR0.2.1⟩⟩
    · skip
      have h6 : D.1.length < 6 := by have := k_lt (n := 6) hR0.2.2.2.2.2.1 rfl (by have := hR0.2.2.2.2.1.1.1; omega) (by omega) c_53; omega
      refine pw_aload_n h 0 d_X4_readClause_56 rfl ?_
      refine pw_callV (As := []) h d_X4_readClause_57 mf_X4_readBearing mi_X4_readBearing ml_RX4_55 ⟨by decide, by decide, by decide⟩ (by assumption) rfl rfl (Nat.le_of_ble_eq_true rfl) trivial (c_X4_readBearing hD0 hR0 hlt h6) ?_
      intro ret1 sh1 I1 L1 R1 hp1
      obtain ⟨e1, eR, eL, fC1, hres1⟩ := hp1
      have e1 := e1.symm
      have eR := eR.symm
      have eL := eL.symm
      subst e1
      subst eR
      subst eL
      obtain ⟨bb, hbb, hb1, hb2⟩ := or_b hres1
      subst hbb
      rw [fx0] at hb1 hb2
      have fD1 : frD I I1 := frD_t fD0 fC1
      refine ⟨rfl, ?_⟩
      refine pw_goto 71 h d_X4_readClause_60 (by decide) ?_
      refine pw_iret h hr d_X4_readClause_71 (by first | decide | exact bI_n _ rfl) (by decide) (by decide) ?_
      first
        | exact rd_end fD1 hb1 hb2 (by unfold pCl; rw [if_pos hc, if_pos h6])
        | exact ⟨rfl, rfl, rfl, frD_t fD0 (frR_D fail_fr), Or.inr ⟨rfl, by unfold pCl; rw [if_pos hc, if_neg h6], by unfold pCl; rw [if_pos hc, if_neg h6, u2_s]; exact hR0.2.1⟩⟩
  · skip
    refine pw_eqI (y := 119) hc ?_
    refine pw_lookup (off := 64) 72 h d_X4_readClause_8 (by decide) (by decide) (by decide) ?_
    rw [fx0] at hc
    have hlt := nxt_lt hc (by decide)
    have h98 : ¬ nxt (I 12) (skB (I 12) a T) T = 98 := by rw [hc]; decide
    refine pw_aload_n h 0 d_X4_readClause_72 rfl ?_
    refine pw_callV (As := []) h d_X4_readClause_73 mf_X4_readWeight mi_X4_readWeight ml_RX4_62 ⟨by decide, by decide, by decide⟩ (by assumption) rfl rfl (Nat.le_of_ble_eq_true rfl) trivial (c_X4_readWeight hD0 hR0 hlt) ?_
    intro ret1 sh1 I1 L1 R1 hp1
    obtain ⟨e1, eR, eL, fC1, hres1⟩ := hp1
    have e1 := e1.symm
    have eR := eR.symm
    have eL := eL.symm
    subst e1
    subst eR
    subst eL
    obtain ⟨bb, hbb, hb1, hb2⟩ := or_b hres1
    subst hbb
    rw [fx0] at hb1 hb2
    have fD1 : frD I I1 := frD_t fD0 fC1
    refine ⟨rfl, ?_⟩
    refine pw_iret h hr d_X4_readClause_76 (bI_n _ rfl) (by decide) (by decide) ?_
    exact rd_end fD1 hb1 hb2 (by unfold pCl; rw [if_neg h98, if_pos hc])
  · skip
    refine pw_eqI (y := 102) hc ?_
    refine pw_lookup (off := 69) 77 h d_X4_readClause_8 (by decide) (by decide) (by decide) ?_
    rw [fx0] at hc
    have hlt := nxt_lt hc (by decide)
    have h98 : ¬ nxt (I 12) (skB (I 12) a T) T = 98 := by rw [hc]; decide
    have h119 : ¬ nxt (I 12) (skB (I 12) a T) T = 119 := by rw [hc]; decide
    refine pw_aload_n h 0 d_X4_readClause_77 rfl ?_
    refine pw_callV (As := []) h d_X4_readClause_78 mf_X4_readStiffness mi_X4_readStiffness ml_RX4_65 ⟨by decide, by decide, by decide⟩ (by assumption) rfl rfl (Nat.le_of_ble_eq_true rfl) trivial (c_X4_readStiffness hD0 hR0 hlt) ?_
    intro ret1 sh1 I1 L1 R1 hp1
    obtain ⟨e1, eR, eL, fC1, hres1⟩ := hp1
    have e1 := e1.symm
    have eR := eR.symm
    have eL := eL.symm
    subst e1
    subst eR
    subst eL
    obtain ⟨bb, hbb, hb1, hb2⟩ := or_b hres1
    subst hbb
    rw [fx0] at hb1 hb2
    have fD1 : frD I I1 := frD_t fD0 fC1
    refine ⟨rfl, ?_⟩
    refine pw_iret h hr d_X4_readClause_81 (bI_n _ rfl) (by decide) (by decide) ?_
    exact rd_end fD1 hb1 hb2 (by unfold pCl; rw [if_neg h98, if_neg h119, if_pos hc])
  · skip
    refine pw_lookup (off := 74) 82 h d_X4_readClause_8 (by decide) (lks_no hc) (by decide) ?_
    rw [fx0] at hc
    refine pw_aload_n h 0 d_X4_readClause_82 rfl ?_
    refine pw_aload_n h 0 d_X4_readClause_83 rfl ?_
    refine pw_getI 4 h d_X4_readClause_84 fd_RX4_26 (by assumption) rfl ?_
    refine pw_callV (As := [.int _]) h d_X4_readClause_87 mf_X4_fail mi_X4_fail ml_RX4_58 ⟨by decide, by decide, by decide⟩ (by assumption) rfl rfl (Nat.le_of_ble_eq_true rfl) trivial (c_X4_fail q0 _) ?_
    refine PKk.ret ?_
    refine pw_iret h hr d_X4_readClause_90 rfl (by decide) (by decide) ?_
    exact ⟨rfl, rfl, rfl, frD_t fD0 (frR_D fail_fr), Or.inr ⟨rfl, by unfold pCl; rw [if_neg hc.1, if_neg hc.2.1, if_neg hc.2.2], by unfold pCl; rw [if_neg hc.1, if_neg hc.2.1, if_neg hc.2.2, u2_s]; exact hR0.2.1⟩⟩

set_option maxHeartbeats 4000000 in
set_option maxRecDepth 100000 in
theorem c_X4_faultOf {sh : Sh} {I : IM} {L : LM} {R : RM} {T : Nat} (hF : RdrF sh R) {x : Int32} (hx : x = nI T) (hT2 : T ≤ 120) : PMet M_X4_faultOf [.ref 13, .ref 12, .int x] sh I L R (fltP sh I L R T) := by
  refine PMet.of mf_X4_faultOf (Nat.le_of_ble_eq_true rfl) ?_
  intro X h hr hml
  have hml : (xc X).maxLocals = 4 := hml
  have h : PXok X RX4 cX4_faultOf 6 0 0 := h
  have hr : PXr X (some .int) "faultOf" _ 0 0 := hr
  obtain ⟨p0, p1, pL, p12⟩ := id hF
  have h12 : 12 < sh.length := (List.getElem?_eq_some_iff.mp p12).1
  show PW X 0 [(0, .ref 13), (1, .ref 12), (2, .int x)] [] sh I L R 0 0
  refine pw_aload_n h 0 d_X4_faultOf_0 rfl ?_
  refine pw_aload_n h 1 d_X4_faultOf_1 rfl ?_
  refine pw_putR 4 h d_X4_faultOf_2 fd_RX4_18 (by assumption) rfl rfl (fun _ => rfl) (fun _ => rfl) (by assumption) ?_
  obtain ⟨R0, eR0⟩ : ∃ R0, R0 = u2 R 13 1 (some 12) := ⟨_, rfl⟩
  refine pw_mem rfl rfl (R' := R0) eR0.symm ?_
  have hD : ReadF sh R0 13 12 := by rw [eR0]; exact RdrF_R hF
  have hD0 := hD
  obtain ⟨q0, q1, hL, q3, q4, qn⟩ := id hD
  have hL0 := hL
  obtain ⟨f0, f1, f2, f3, f4, f5, g1, g2, g3, g4, g5⟩ := id hL
  refine pw_aload_n h 0 d_X4_faultOf_5 rfl ?_
  refine pw_iload_n h 2 d_X4_faultOf_6 rfl ?_
  refine pw_putI 4 h d_X4_faultOf_7 fd_RX4_22 (by assumption) rfl rfl rfl rfl ?_
  refine pw_aload_n h 0 d_X4_faultOf_10 rfl ?_
  refine pw_iconst (x := 0) h d_X4_faultOf_11 (by decide) ?_
  refine pw_putI 4 h d_X4_faultOf_12 fd_RX4_26 (by assumption) rfl rfl rfl rfl ?_
  refine pw_aload_n h 0 d_X4_faultOf_15 rfl ?_
  refine pw_iconst (x := (-1)) h d_X4_faultOf_16 (by decide) ?_
  refine pw_putI 4 h d_X4_faultOf_17 fd_RX4_32 (by assumption) rfl rfl rfl rfl ?_
  refine pw_aload_n h 0 d_X4_faultOf_20 rfl ?_
  refine pw_getR (j := 14) 4 h d_X4_faultOf_21 fd_RX4_12 (by assumption) rfl (by assumption) ?_
  refine pw_callV (As := []) h d_X4_faultOf_24 mf_X2_clear mi_X2_clear ml_RX4_35 ⟨by decide, by decide, by decide⟩ (by assumption) rfl rfl (Nat.le_of_ble_eq_true rfl) trivial (c_X2_clear hL0) ?_
  intro ret1 sh1 I1 L1 R1 hp1
  obtain ⟨e0, e1, eI, eL, eR⟩ := hp1
  subst e0
  have e1 := e1.symm
  have eR := eR.symm
  have eL := eL.symm
  subst e1
  subst eR
  subst eL
  refine ⟨rfl, ?_⟩
  have z2 : I1 13 2 = x := by rw [eI, u1_n (by decide), u2_n1 (by decide), u2_n2 (by decide), u2_n2 (by decide), u2_s]
  have z3 : I1 13 3 = 0 := by rw [eI, u1_n (by decide), u2_n1 (by decide), u2_n2 (by decide), u2_s]
  have z4 : I1 14 0 = 0 := by rw [eI, u1_n (by decide), u2_s]
  have z19 : ∀ p, p < 13 → I1 19 p = 0 := fun p hp => by rw [eI, u1_s, if_pos hp]
  have fZ : frD I I1 := fun b k c => by rw [eI, u1_n (by omega), u2_n1 (by omega), u2_n1 (by omega), u2_n1 (by omega), u2_n1 (by omega)]
  clear eI
  refine pw_aload_n h 0 d_X4_faultOf_27 rfl ?_
  refine pw_getR (j := 14) 4 h d_X4_faultOf_28 fd_RX4_12 (by assumption) rfl (by assumption) ?_
  refine pw_iconst (x := 0) h d_X4_faultOf_31 (by decide) ?_
  refine pw_putI 2 h d_X4_faultOf_32 fd_RX4_38 (by assumption) rfl rfl rfl rfl ?_
  obtain ⟨I0, eI0⟩ : ∃ I0, I0 = u2 I1 14 6 0 := ⟨_, rfl⟩
  refine pw_mem (I' := I0) eI0.symm rfl rfl ?_
  have hR0 : RdI I0 T 0 dr0 := by rw [eI0]; exact read_0 hx hT2 (by rw [u2_n1 (by decide)]; exact z2) (by rw [u2_n1 (by decide)]; exact z3) (by rw [u2_n2 (by decide)]; exact z4) u2_s (fun p hp => by rw [u2_n1 (by decide)]; exact z19 p hp)
  have fD0 : frD I I0 := by rw [eI0]; exact frD_t fZ (fun b k c => u2_n1 (by omega))
  have fx0 : I0 12 = I 12 := frD_f fD0
  refine pw_iconst (x := 1) h d_X4_faultOf_35 (by decide) ?_
  refine pw_nmI (fun v3_36 e3_36 => ?_)
  refine pw_istore_n (lv' := [(3, .int v3_36), (0, .ref 13), (1, .ref 12), (2, .int x)]) h d_X4_faultOf_36 rfl _ hml (by decide) rfl ?_
  have cut_37 : ∀ (N k e : Nat) (D : DR) (y : Int32) (I2 : IM), 20 < k + N → 1 ≤ k → k ≤ 20 → y = nI k → RdI I2 T e D → frD I I2 → pTx (I 12) T (20 - k) e D = pTx (I 12) T 19 0 dr0 → PW X 37 [(0, .ref 13), (1, .ref 12), (2, .int x), (3, .int y)] [] sh I2 L R0 0 0 := by
    intro N
    induction N with
    | zero => intros; omega
    | succ N ih =>
      intro k e D y I2 hN hk1 hk20 ek hR2 fD2 hq
      have fx2 : I2 12 = I 12 := frD_f fD2
      refine pw_iload_n h 3 d_X4_faultOf_37 rfl ?_
      refine pw_bipush (x := 20) h d_X4_faultOf_38 (by decide) ?_
      refine pw_icmp_gt 103 h d_X4_faultOf_40 (by decide) (fun c_40 => ?_) (fun c_40 => ?_)
      · exact absurd (k_lt2 (n := k) (i := 20) rfl ek (by decide) (by omega) c_40) (by omega)
      · skip
        refine pw_aload_n h 0 d_X4_faultOf_43 rfl ?_
        refine pw_callV (As := []) h d_X4_faultOf_44 mf_X4_readClause mi_X4_readClause ml_RX4_41 ⟨by decide, by decide, by decide⟩ (by assumption) rfl rfl (Nat.le_of_ble_eq_true rfl) trivial (c_X4_readClause hD0 hR2) ?_
        intro ret3 sh3 I3 L3 R3 hp3
        obtain ⟨e1, eR, eL, fC3, hres3⟩ := hp3
        have e1 := e1.symm
        have eR := eR.symm
        have eL := eL.symm
        subst e1
        subst eR
        subst eL
        obtain ⟨bb, hbb, hb1, hb2⟩ := or_b hres3
        subst hbb
        rw [fx2] at hb1 hb2
        have fD3 : frD I I3 := frD_t fD2 fC3
        refine ⟨rfl, ?_⟩
        refine pw_if_eq 103 h d_X4_faultOf_47 (by decide) (fun c_47 => ?_) (fun c_47 => ?_)
        · skip
          rw [bI_1] at c_47
          have hb := hb2 c_47
          refine pw_aload_n h 0 d_X4_faultOf_103 rfl ?_
          refine pw_getI 4 h d_X4_faultOf_104 fd_RX4_32 (by assumption) rfl ?_
          refine pw_iret h hr d_X4_faultOf_107 rfl (by decide) (by decide) ?_
          exact ⟨rfl, eR0, rfl, fD3, Or.inr ⟨_, Nat.le_trans (pCl_le hR2.2.2.1) hT2, hq ▸ px_no rfl hb.1, by rw [hb.2]⟩⟩
        · skip
          rw [bI_1, Bool.not_eq_false] at c_47
          obtain ⟨D', hD2, hR3⟩ := hb1 c_47
          have fx3 : I3 12 = I 12 := frD_f fD3
          refine pw_aload_n h 0 d_X4_faultOf_50 rfl ?_
          refine pw_callV (As := []) h d_X4_faultOf_51 mf_X4_skipBlanks mi_X4_skipBlanks ml_RX4_45 ⟨by decide, by decide, by decide⟩ (by assumption) rfl rfl (Nat.le_of_ble_eq_true rfl) trivial (c_X4_skipBlanks hD0 hR3.2.1 hR3.1 hT2 hR3.2.2.1) ?_
          intro ret4 sh4 I4 L4 R4 hp4
          obtain ⟨e0, e1, eI, eL, eR⟩ := hp4
          subst e0
          have e1 := e1.symm
          have eR := eR.symm
          have eL := eL.symm
          subst e1
          subst eR
          subst eL
          refine ⟨rfl, ?_⟩
          have hk4 := rd_skip hR3
          rw [← eI, fx3] at hk4
          have hR4 : RdI I4 T (skB (I 12) (pCl (I 12) T e D).1 T) D' := hk4.1
          have fD4 : frD I I4 := frD_t fD3 (frR_D hk4.2)
          have fx4 : I4 12 = I 12 := frD_f fD4
          clear eI
          refine pw_aload_n h 0 d_X4_faultOf_54 rfl ?_
          refine pw_getI 4 h d_X4_faultOf_55 fd_RX4_26 (by assumption) rfl ?_
          refine pw_aload_n h 0 d_X4_faultOf_58 rfl ?_
          refine pw_getI 4 h d_X4_faultOf_59 fd_RX4_22 (by assumption) rfl ?_
          refine pw_icmp_lt 67 h d_X4_faultOf_62 (by decide) (fun c_62 => ?_) (fun c_62 => ?_)
          · skip
            have hlt := k_lt2 hR4.2.1 hR4.1 (by have := hR4.2.2.1; omega) (by omega) c_62
            refine pw_aload_n h 0 d_X4_faultOf_67 rfl ?_
            refine pw_callV (As := []) h d_X4_faultOf_68 mf_X4_next mi_X4_next ml_RX4_48 ⟨by decide, by decide, by decide⟩ (by assumption) rfl rfl (Nat.le_of_ble_eq_true rfl) trivial (c_X4_next hD0 hR4.2.1 hR4.1 hT2 hR4.2.2.1) ?_
            refine PKk.ret ?_
            refine pw_bipush (x := 59) h d_X4_faultOf_71 (by decide) ?_
            refine pw_icmp_ne 82 h d_X4_faultOf_73 (by decide) (fun c_73 => ?_) (fun c_73 => ?_)
            · skip
              rw [fx4] at c_73
              have hbad := px_bad (n := 20 - k) rfl hD2 (by omega) (Or.inl c_73)
              refine pw_aload_n h 0 d_X4_faultOf_82 rfl ?_
              refine pw_getI 4 h d_X4_faultOf_83 fd_RX4_26 (by assumption) rfl ?_
              refine pw_iret h hr d_X4_faultOf_86 rfl (by decide) (by decide) ?_
              exact ⟨rfl, eR0, rfl, fD4, Or.inr ⟨_, by have := hR4.2.2.1; omega, hq ▸ hbad, by rw [hR4.2.1]⟩⟩
            · skip
              rw [fx4] at c_73
              refine pw_iload_n h 3 d_X4_faultOf_76 rfl ?_
              refine pw_bipush (x := 20) h d_X4_faultOf_77 (by decide) ?_
              refine pw_icmp_ne 87 h d_X4_faultOf_79 (by decide) (fun c_79 => ?_) (fun c_79 => ?_)
              · skip
                have hk20 : ¬ k = 20 := fun q => c_79 (by rw [ek, q]; rfl)
                refine pw_aload_n h 0 d_X4_faultOf_87 rfl ?_
                refine pw_dupR h d_X4_faultOf_88 ?_
                refine pw_getI 4 h d_X4_faultOf_89 fd_RX4_26 (by assumption) rfl ?_
                refine pw_iconst (x := 1) h d_X4_faultOf_92 (by decide) ?_
                refine pw_iadd h d_X4_faultOf_93 ?_
                refine pw_putI 4 h d_X4_faultOf_94 fd_RX4_26 (by assumption) rfl rfl rfl rfl ?_
                obtain ⟨I5, eI5⟩ : ∃ I5, I5 = u2 I4 13 3 (I4 13 3 + 1) := ⟨_, rfl⟩
                refine pw_mem (I' := I5) eI5.symm rfl rfl ?_
                have hR5 := (rd_inc hR4 hlt).1
                rw [← eI5] at hR5
                have fD5 : frD I I5 := by rw [eI5]; exact frD_t fD4 (rd_inc hR4 hlt).2
                obtain ⟨v3_97, e3_97⟩ : ∃ z : Int32, z = y + (1) := ⟨_, rfl⟩
                refine pw_iinc (lv' := [(3, .int v3_97), (0, .ref 13), (1, .ref 12), (2, .int x)]) v3_97 h d_X4_faultOf_97 3 rfl e3_97.symm _ hml (by decide) rfl ?_
                refine pw_goto 37 h d_X4_faultOf_100 (by decide) ?_
                refine PW.perm [1, 2, 3, 0] rfl ?_
                exact ih (k + 1) _ _ v3_97 _ (by omega) (by omega) (by omega) (k_up e3_97 ek) hR5 fD5 (by rw [← hq, show 20 - k = 20 - (k + 1) + 1 by omega]; exact (px_go2 rfl hD2 (by omega) c_73).symm)
              · skip
                have hk20 : k = 20 := by rw [ek] at c_79; exact (nI_eq (by omega) (by decide)).mp c_79
                have hbad := px_bad (n := 20 - k) rfl hD2 (by omega) (Or.inr (by omega))
                refine pw_aload_n h 0 d_X4_faultOf_82 rfl ?_
                refine pw_getI 4 h d_X4_faultOf_83 fd_RX4_26 (by assumption) rfl ?_
                refine pw_iret h hr d_X4_faultOf_86 rfl (by decide) (by decide) ?_
                exact ⟨rfl, eR0, rfl, fD4, Or.inr ⟨_, by have := hR4.2.2.1; omega, hq ▸ hbad, by rw [hR4.2.1]⟩⟩
          · skip
            have hge := k_ge2 hR4.2.1 hR4.1 (by have := hR4.2.2.1; omega) (by omega) c_62
            refine pw_iconst (x := (-1)) h d_X4_faultOf_65 (by decide) ?_
            refine pw_iret h hr d_X4_faultOf_66 rfl (by decide) (by decide) ?_
            exact ⟨rfl, eR0, rfl, fD4, Or.inl ⟨_, _, hq ▸ px_end rfl hD2 hge, rfl, hR4.2.2.2.2.1, hR4.2.2.2.2.2⟩⟩
  refine PW.perm [1, 2, 3, 0] rfl ?_
  exact cut_37 20 1 0 dr0 v3_36 _ (by omega) (by omega) (by omega) e3_36 hR0 fD0 rfl
