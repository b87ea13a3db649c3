set_option maxHeartbeats 4000000 in
set_option maxRecDepth 100000 in
theorem c_X4_readStiffness {sh : Sh} {I : IM} {L : LM} {R : RM} {T a : Nat} {D : DR} (hD : ReadF sh R 13 12) (hRD : RdI I T a D) (haT : a < T) : PMet M_X4_readStiffness [.ref 13] sh I L R (rdP sh I L R T (pF (I 12) T (a + 1) D)) := by
  refine PMet.of mf_X4_readStiffness (Nat.le_of_ble_eq_true rfl) ?_
  intro X h hr hml
  have hml : (xc X).maxLocals = 2 := hml
  have h : PXok X RX4 cX4_readStiffness 4 0 0 := h
  have hr : PXr X (some .boolean) "readStiffness" _ 0 0 := hr
  have hD0 := hD
  obtain ⟨q0, q1, hL, q3, q4, qn⟩ := id hD
  have hL0 := hL
  obtain ⟨f0, f1, f2, f3, f4, f5, g1, g2, g3, g4, g5⟩ := id hL
  have hT2 := hRD.2.2.2.1
  show PW X 0 [(0, .ref 13)] [] sh I L R 0 0
  refine pw_aload_n h 0 d_X4_readStiffness_0 rfl ?_
  refine pw_dupR h d_X4_readStiffness_1 ?_
  refine pw_getI 4 h d_X4_readStiffness_2 fd_RX4_26 (by assumption) rfl ?_
  refine pw_iconst (x := 1) h d_X4_readStiffness_5 (by decide) ?_
  refine pw_iadd h d_X4_readStiffness_6 ?_
  refine pw_putI 4 h d_X4_readStiffness_7 fd_RX4_26 (by assumption) rfl rfl rfl rfl ?_
  obtain ⟨I0, eI0⟩ : ∃ I0, I0 = u2 I 13 3 (I 13 3 + 1) := ⟨_, rfl⟩
  refine pw_mem (I' := I0) eI0.symm rfl rfl ?_
  have hR0 : RdI I0 T (a + 1) D := by rw [eI0]; exact (rd_inc hRD haT).1
  have fD0 : frD I I0 := by rw [eI0]; exact (rd_inc hRD haT).2
  have fx0 : I0 12 = I 12 := frD_f fD0
  refine pw_aload_n h 0 d_X4_readStiffness_10 rfl ?_
  refine pw_callV (As := []) h d_X4_readStiffness_11 mf_X4_readNumber mi_X4_readNumber ml_RX4_68 ⟨by decide, by decide, by decide⟩ (by assumption) rfl rfl (Nat.le_of_ble_eq_true rfl) trivial (c_X4_readNumber hD0 hR0.2.1 hR0.1 hT2 hR0.2.2.1) ?_
  intro ret1 sh1 I1 L1 R1 hp1
  obtain ⟨e1, eR, eL, fR1, hn1, x1, ex1, hx1⟩ := rn_post hp1
  have e1 := e1.symm
  have eR := eR.symm
  have eL := eL.symm
  subst e1
  subst eR
  subst eL
  subst ex1
  rw [fx0] at hn1 hx1
  have fD1 : frD I I1 := frD_t fD0 (frR_D fR1)
  have fx1 : I1 12 = I 12 := frD_f fD1
  have hsk1 := skB_le (f := I 12) hR0.2.2.1
  refine ⟨rfl, ?_⟩
  refine pw_nmI (fun v1_14 e1_14 => ?_)
  refine pw_istore_n (lv' := [(1, .int v1_14), (0, .ref 13)]) h d_X4_readStiffness_14 rfl _ hml (by decide) rfl ?_
  refine pw_iload_n h 0 d_X4_readStiffness_15 rfl ?_
  refine pw_if_ge 21 h d_X4_readStiffness_16 (by decide) (fun c_16 => ?_) (fun c_16 => ?_)
  · skip
    have hd1 : isDg (I 12) (skB (I 12) (a + 1) T) T = true ∧ x1.toInt = ((min (numZ (I 12) T (skB (I 12) (a + 1) T)).2 1000 : Nat) : Int) ∧ I1 13 3 = nI (numZ (I 12) T (skB (I 12) (a + 1) T)).1 := rn_yes hx1 (by rw [← e1_14]; exact c_16)
    have hze1 := numZ_le (f := I 12) (T := T) (a := skB (I 12) (a + 1) T) (by omega)
    refine pw_iload_n h 0 d_X4_readStiffness_21 rfl ?_
    refine pw_iconst (x := 1) h d_X4_readStiffness_22 (by decide) ?_
    refine pw_icmp_lt 32 h d_X4_readStiffness_23 (by decide) (fun c_23 => ?_) (fun c_23 => ?_)
    · skip
      have hb : ¬ (1 ≤ (numZ (I 12) T (skB (I 12) (a + 1) T)).2 ∧ (numZ (I 12) T (skB (I 12) (a + 1) T)).2 ≤ 20) := by intro q; have := i_lt c_23; rw [e1_14, hd1.2.1] at this; have z : (1 : Int32).toInt = 1 := rfl; omega
      refine pw_aload_n h 1 d_X4_readStiffness_32 rfl ?_
      refine pw_aload_n h 1 d_X4_readStiffness_33 rfl ?_
      refine pw_getI 4 h d_X4_readStiffness_34 fd_RX4_29 (by assumption) rfl ?_
      refine pw_callV (As := [.int _]) h d_X4_readStiffness_37 mf_X4_fail mi_X4_fail ml_RX4_58 ⟨by decide, by decide, by decide⟩ (by assumption) rfl rfl (Nat.le_of_ble_eq_true rfl) trivial (c_X4_fail q0 _) ?_
      refine PKk.ret ?_
      refine pw_iret h hr d_X4_readStiffness_40 rfl (by decide) (by decide) ?_
      exact ⟨rfl, rfl, rfl, frD_t fD1 (frR_D fail_fr), Or.inr ⟨rfl, by unfold pF; rw [if_pos hd1.1, if_neg hb], by unfold pF; rw [if_pos hd1.1, if_neg hb, u2_s]; exact hn1⟩⟩
    · skip
      refine pw_iload_n h 0 d_X4_readStiffness_26 rfl ?_
      refine pw_bipush (x := 20) h d_X4_readStiffness_27 (by decide) ?_
      refine pw_icmp_le 41 h d_X4_readStiffness_29 (by decide) (fun c_29 => ?_) (fun c_29 => ?_)
      · skip
        have hb : 1 ≤ (numZ (I 12) T (skB (I 12) (a + 1) T)).2 ∧ (numZ (I 12) T (skB (I 12) (a + 1) T)).2 ≤ 20 := by have k1 := i_nlt c_23; have k2 := i_le c_29; rw [e1_14, hd1.2.1] at k1 k2; have z : (20 : Int32).toInt = 20 := rfl; have z2 : (1 : Int32).toInt = 1 := rfl; omega
        refine pw_aload_n h 1 d_X4_readStiffness_41 rfl ?_
        refine pw_getR (j := 14) 4 h d_X4_readStiffness_42 fd_RX4_12 (by assumption) rfl (by assumption) ?_
        refine pw_iload_n h 0 d_X4_readStiffness_45 rfl ?_
        refine pw_putI 2 h d_X4_readStiffness_46 fd_RX4_38 (by assumption) rfl rfl rfl rfl ?_
        refine pw_iconst (x := 1) h d_X4_readStiffness_49 (by decide) ?_
        refine pw_iret h hr d_X4_readStiffness_50 (by decide) (by decide) (by decide) ?_
        have hv : v1_14.toInt = ((numZ (I 12) T (skB (I 12) (a + 1) T)).2 : Int) := by rw [e1_14, hd1.2.1]; omega
        exact ⟨rfl, rfl, rfl, frD_t fD1 (fun b k c => u2_n1 (by omega)), Or.inl ⟨rfl, _, by unfold pF; rw [if_pos hd1.1, if_pos hb], by unfold pF; rw [if_pos hd1.1, if_pos hb]; exact rd_stiff (RdI_at hR0 fR1 hd1.2.2 hze1.2) hv hb.2⟩⟩
      · skip
        have hb : ¬ (1 ≤ (numZ (I 12) T (skB (I 12) (a + 1) T)).2 ∧ (numZ (I 12) T (skB (I 12) (a + 1) T)).2 ≤ 20) := by intro q; have := i_nle c_29; rw [e1_14, hd1.2.1] at this; have z : (20 : Int32).toInt = 20 := rfl; omega
        refine pw_aload_n h 1 d_X4_readStiffness_32 rfl ?_
        refine pw_aload_n h 1 d_X4_readStiffness_33 rfl ?_
        refine pw_getI 4 h d_X4_readStiffness_34 fd_RX4_29 (by assumption) rfl ?_
        refine pw_callV (As := [.int _]) h d_X4_readStiffness_37 mf_X4_fail mi_X4_fail ml_RX4_58 ⟨by decide, by decide, by decide⟩ (by assumption) rfl rfl (Nat.le_of_ble_eq_true rfl) trivial (c_X4_fail q0 _) ?_
        refine PKk.ret ?_
        refine pw_iret h hr d_X4_readStiffness_40 rfl (by decide) (by decide) ?_
        exact ⟨rfl, rfl, rfl, frD_t fD1 (frR_D fail_fr), Or.inr ⟨rfl, by unfold pF; rw [if_pos hd1.1, if_neg hb], by unfold pF; rw [if_pos hd1.1, if_neg hb, u2_s]; exact hn1⟩⟩
  · skip
    have hd1 : isDg (I 12) (skB (I 12) (a + 1) T) T = false ∧ I1 13 5 = nI (skB (I 12) (a + 1) T) := rn_no hx1 (by rw [← e1_14]; exact c_16)
    refine pw_iconst (x := 0) h d_X4_readStiffness_19 (by decide) ?_
    refine pw_iret h hr d_X4_readStiffness_20 rfl (by decide) (by decide) ?_
    exact ⟨rfl, rfl, rfl, fD1, Or.inr ⟨rfl, by unfold pF; rw [if_neg (by rw [hd1.1]; decide)], by unfold pF; rw [if_neg (by rw [hd1.1]; decide)]; exact hd1.2⟩⟩

set_option maxHeartbeats 4000000 in
set_option maxRecDepth 100000 in
theorem c_X4_readWeight {sh : Sh} {I : IM} {L : LM} {R : RM} {T a : Nat} {D : DR} (hD : ReadF sh R 13 12) (hRD : RdI I T a D) (haT : a < T) : PMet M_X4_readWeight [.ref 13] sh I L R (rdP sh I L R T (pW (I 12) T (a + 1) D)) := by
  refine PMet.of mf_X4_readWeight (Nat.le_of_ble_eq_true rfl) ?_
  intro X h hr hml
  have hml : (xc X).maxLocals = 3 := hml
  have h : PXok X RX4 cX4_readWeight 4 0 0 := h
  have hr : PXr X (some .boolean) "readWeight" _ 0 0 := hr
  have hD0 := hD
  obtain ⟨q0, q1, hL, q3, q4, qn⟩ := id hD
  have hL0 := hL
  obtain ⟨f0, f1, f2, f3, f4, f5, g1, g2, g3, g4, g5⟩ := id hL
  have hT2 := hRD.2.2.2.1
  show PW X 0 [(0, .ref 13)] [] sh I L R 0 0
  refine pw_aload_n h 0 d_X4_readWeight_0 rfl ?_
  refine pw_dupR h d_X4_readWeight_1 ?_
  refine pw_getI 4 h d_X4_readWeight_2 fd_RX4_26 (by assumption) rfl ?_
  refine pw_iconst (x := 1) h d_X4_readWeight_5 (by decide) ?_
  refine pw_iadd h d_X4_readWeight_6 ?_
  refine pw_putI 4 h d_X4_readWeight_7 fd_RX4_26 (by assumption) rfl rfl rfl rfl ?_
  obtain ⟨I0, eI0⟩ : ∃ I0, I0 = u2 I 13 3 (I 13 3 + 1) := ⟨_, rfl⟩
  refine pw_mem (I' := I0) eI0.symm rfl rfl ?_
  have hR0 : RdI I0 T (a + 1) D := by rw [eI0]; exact (rd_inc hRD haT).1
  have fD0 : frD I I0 := by rw [eI0]; exact (rd_inc hRD haT).2
  have fx0 : I0 12 = I 12 := frD_f fD0
  refine pw_aload_n h 0 d_X4_readWeight_10 rfl ?_
  refine pw_callV (As := []) h d_X4_readWeight_11 mf_X4_readNumber mi_X4_readNumber ml_RX4_68 ⟨by decide, by decide, by decide⟩ (by assumption) rfl rfl (Nat.le_of_ble_eq_true rfl) trivial (c_X4_readNumber hD0 hR0.2.1 hR0.1 hT2 hR0.2.2.1) ?_
  intro ret1 sh1 I1 L1 R1 hp1
  obtain ⟨e1, eR, eL, fR1, hn1, x1, ex1, hx1⟩ := rn_post hp1
  have e1 := e1.symm
  have eR := eR.symm
  have eL := eL.symm
  subst e1
  subst eR
  subst eL
  subst ex1
  rw [fx0] at hn1 hx1
  have fD1 : frD I I1 := frD_t fD0 (frR_D fR1)
  have fx1 : I1 12 = I 12 := frD_f fD1
  have hsk1 := skB_le (f := I 12) hR0.2.2.1
  refine ⟨rfl, ?_⟩
  refine pw_nmI (fun v1_14 e1_14 => ?_)
  refine pw_istore_n (lv' := [(1, .int v1_14), (0, .ref 13)]) h d_X4_readWeight_14 rfl _ hml (by decide) rfl ?_
  refine pw_iload_n h 0 d_X4_readWeight_15 rfl ?_
  refine pw_if_ge 21 h d_X4_readWeight_16 (by decide) (fun c_16 => ?_) (fun c_16 => ?_)
  · skip
    have hd1 : isDg (I 12) (skB (I 12) (a + 1) T) T = true ∧ x1.toInt = ((min (numZ (I 12) T (skB (I 12) (a + 1) T)).2 1000 : Nat) : Int) ∧ I1 13 3 = nI (numZ (I 12) T (skB (I 12) (a + 1) T)).1 := rn_yes hx1 (by rw [← e1_14]; exact c_16)
    have hze1 := numZ_le (f := I 12) (T := T) (a := skB (I 12) (a + 1) T) (by omega)
    have hR1 : RdI I1 T ((numZ (I 12) T (skB (I 12) (a + 1) T)).1) D := RdI_at hR0 fR1 hd1.2.2 hze1.2
    have hskE := skB_le (f := I 12) (T := T) (a := (numZ (I 12) T (skB (I 12) (a + 1) T)).1) hze1.2
    refine pw_iload_n h 0 d_X4_readWeight_21 rfl ?_
    refine pw_bipush (x := 13) h d_X4_readWeight_22 (by decide) ?_
    refine pw_icmp_ge 39 h d_X4_readWeight_24 (by decide) (fun c_24 => ?_) (fun c_24 => ?_)
    · skip
      have hb : ¬ ((numZ (I 12) T (skB (I 12) (a + 1) T)).2 ≤ 12 ∧ ¬ 0 < D.2.1 ((numZ (I 12) T (skB (I 12) (a + 1) T)).2)) := by intro q; have := i_le c_24; rw [e1_14, hd1.2.1] at this; have z : (13 : Int32).toInt = 13 := rfl; omega
      refine pw_aload_n h 1 d_X4_readWeight_39 rfl ?_
      refine pw_aload_n h 1 d_X4_readWeight_40 rfl ?_
      refine pw_getI 4 h d_X4_readWeight_41 fd_RX4_29 (by assumption) rfl ?_
      refine pw_callV (As := [.int _]) h d_X4_readWeight_44 mf_X4_fail mi_X4_fail ml_RX4_58 ⟨by decide, by decide, by decide⟩ (by assumption) rfl rfl (Nat.le_of_ble_eq_true rfl) trivial (c_X4_fail q0 _) ?_
      refine PKk.ret ?_
      refine pw_iret h hr d_X4_readWeight_47 rfl (by decide) (by decide) ?_
      exact ⟨rfl, rfl, rfl, frD_t fD1 (frR_D fail_fr), Or.inr ⟨rfl, by unfold pW; rw [if_pos hd1.1, if_neg hb], by unfold pW; rw [if_pos hd1.1, if_neg hb]; exact by rw [u2_s]; exact hn1⟩⟩
    · skip
      have hV : (numZ (I 12) T (skB (I 12) (a + 1) T)).2 ≤ 12 := by have := i_nle c_24; rw [e1_14, hd1.2.1] at this; have z : (13 : Int32).toInt = 13 := rfl; omega
      have hvv : v1_14.toInt = (((numZ (I 12) T (skB (I 12) (a + 1) T)).2 : Nat) : Int) := by rw [e1_14, hd1.2.1]; omega
      have hxv : px_ix v1_14 13 ((numZ (I 12) T (skB (I 12) (a + 1) T)).2) := k_ix (to_nI hvv) (by omega) (by decide)
      have hw19 := hR1.2.2.2.2.2.2.2.2.1 ((numZ (I 12) T (skB (I 12) (a + 1) T)).2) (by omega)
      refine pw_aload_n h 1 d_X4_readWeight_27 rfl ?_
      refine pw_getR (j := 14) 4 h d_X4_readWeight_28 fd_RX4_12 (by assumption) rfl (by assumption) ?_
      refine pw_getR (j := 19) 2 h d_X4_readWeight_31 fd_RX4_83 (by assumption) rfl (by assumption) ?_
      refine pw_iload_n h 0 d_X4_readWeight_34 rfl ?_
      refine pw_iald h d_X4_readWeight_35 (by assumption) (by assumption) ?_
      refine pw_if_le 48 h d_X4_readWeight_36 (by decide) (fun c_36 => ?_) (fun c_36 => ?_)
      · skip
        have hb : (numZ (I 12) T (skB (I 12) (a + 1) T)).2 ≤ 12 ∧ ¬ 0 < D.2.1 ((numZ (I 12) T (skB (I 12) (a + 1) T)).2) := ⟨hV, by rw [← hw19]; exact Int.not_lt.mpr (i_le c_36)⟩
        refine pw_aload_n h 1 d_X4_readWeight_48 rfl ?_
        refine pw_bipush (x := 61) h d_X4_readWeight_49 (by decide) ?_
        refine pw_callV (As := [.int _]) h d_X4_readWeight_51 mf_X4_steps mi_X4_steps ml_RX4_75 ⟨by decide, by decide, by decide⟩ (by assumption) rfl rfl (Nat.le_of_ble_eq_true rfl) trivial (c_X4_steps hD0 hR1.2.1 hR1.1 hT2 hR1.2.2.1 _) ?_
        intro ret2 sh2 I2 L2 R2 hp2
        obtain ⟨e1, eR, eL, fR2, bb2, ex2, ht2, hf2⟩ := st_post hp2
        have e1 := e1.symm
        have eR := eR.symm
        have eL := eL.symm
        subst e1
        subst eR
        subst eL
        subst ex2
        rw [fx1] at ht2 hf2
        have fD2 : frD I I2 := frD_t fD1 (frR_D fR2)
        have fx2 : I2 12 = I 12 := frD_f fD2
        have hsk2 := skB_le (f := I 12) hR1.2.2.1
        refine ⟨rfl, ?_⟩
        refine pw_if_ne 66 h d_X4_readWeight_54 (by decide) (fun c_54 => ?_) (fun c_54 => ?_)
        · skip
          rw [bI_1, Bool.not_eq_false] at c_54
          have hltE : skB (I 12) ((numZ (I 12) T (skB (I 12) (a + 1) T)).1) T < T := nxt_lt (ht2 c_54).1 (by decide)
          have hR2 : RdI I2 T (skB (I 12) ((numZ (I 12) T (skB (I 12) (a + 1) T)).1) T + 1) D := RdI_at hR1 fR2 (ht2 c_54).2 hltE
          refine pw_aload_n h 1 d_X4_readWeight_66 rfl ?_
          refine pw_callV (As := []) h d_X4_readWeight_67 mf_X4_readNumber mi_X4_readNumber ml_RX4_68 ⟨by decide, by decide, by decide⟩ (by assumption) rfl rfl (Nat.le_of_ble_eq_true rfl) trivial (c_X4_readNumber hD0 hR2.2.1 hR2.1 hT2 hR2.2.2.1) ?_
          intro ret3 sh3 I3 L3 R3 hp3
          obtain ⟨e1, eR, eL, fR3, hn3, x3, ex3, hx3⟩ := rn_post hp3
          have e1 := e1.symm
          have eR := eR.symm
          have eL := eL.symm
          subst e1
          subst eR
          subst eL
          subst ex3
          rw [fx2] at hn3 hx3
          have fD3 : frD I I3 := frD_t fD2 (frR_D fR3)
          have fx3 : I3 12 = I 12 := frD_f fD3
          have hsk3 := skB_le (f := I 12) hR2.2.2.1
          refine ⟨rfl, ?_⟩
          refine pw_nmI (fun v2_70 e2_70 => ?_)
          refine pw_istore_n (lv' := [(2, .int v2_70), (1, .int v1_14), (0, .ref 13)]) h d_X4_readWeight_70 rfl _ hml (by decide) rfl ?_
          refine pw_iload_n h 0 d_X4_readWeight_71 rfl ?_
          refine pw_if_ge 77 h d_X4_readWeight_72 (by decide) (fun c_72 => ?_) (fun c_72 => ?_)
          · skip
            have hd3 : isDg (I 12) (skB (I 12) (skB (I 12) ((numZ (I 12) T (skB (I 12) (a + 1) T)).1) T + 1) T) T = true ∧ x3.toInt = ((min (numZ (I 12) T (skB (I 12) (skB (I 12) ((numZ (I 12) T (skB (I 12) (a + 1) T)).1) T + 1) T)).2 1000 : Nat) : Int) ∧ I3 13 3 = nI (numZ (I 12) T (skB (I 12) (skB (I 12) ((numZ (I 12) T (skB (I 12) (a + 1) T)).1) T + 1) T)).1 := rn_yes hx3 (by rw [← e2_70]; exact c_72)
            have hze3 := numZ_le (f := I 12) (T := T) (a := skB (I 12) (skB (I 12) ((numZ (I 12) T (skB (I 12) (a + 1) T)).1) T + 1) T) (by omega)
            refine pw_iload_n h 0 d_X4_readWeight_77 rfl ?_
            refine pw_iconst (x := 1) h d_X4_readWeight_78 (by decide) ?_
            refine pw_icmp_lt 88 h d_X4_readWeight_79 (by decide) (fun c_79 => ?_) (fun c_79 => ?_)
            · skip
              have hb3 : ¬ (1 ≤ (numZ (I 12) T (skB (I 12) (skB (I 12) ((numZ (I 12) T (skB (I 12) (a + 1) T)).1) T + 1) T)).2 ∧ (numZ (I 12) T (skB (I 12) (skB (I 12) ((numZ (I 12) T (skB (I 12) (a + 1) T)).1) T + 1) T)).2 ≤ 50) := by intro q; have := i_lt c_79; rw [e2_70, hd3.2.1] at this; have z : (1 : Int32).toInt = 1 := rfl; omega
              refine pw_aload_n h 2 d_X4_readWeight_88 rfl ?_
              refine pw_aload_n h 2 d_X4_readWeight_89 rfl ?_
              refine pw_getI 4 h d_X4_readWeight_90 fd_RX4_29 (by assumption) rfl ?_
              refine pw_callV (As := [.int _]) h d_X4_readWeight_93 mf_X4_fail mi_X4_fail ml_RX4_58 ⟨by decide, by decide, by decide⟩ (by assumption) rfl rfl (Nat.le_of_ble_eq_true rfl) trivial (c_X4_fail q0 _) ?_
              refine PKk.ret ?_
              refine pw_iret h hr d_X4_readWeight_96 rfl (by decide) (by decide) ?_
              exact ⟨rfl, rfl, rfl, frD_t fD3 (frR_D fail_fr), Or.inr ⟨rfl, by unfold pW; rw [if_pos hd1.1, if_pos hb]; unfold pW2; rw [if_pos (ht2 c_54).1, if_pos hd3.1, if_neg hb3], by unfold pW; rw [if_pos hd1.1, if_pos hb]; unfold pW2; rw [if_pos (ht2 c_54).1, if_pos hd3.1, if_neg hb3]; exact by rw [u2_s]; exact hn3⟩⟩
            · skip
              refine pw_iload_n h 0 d_X4_readWeight_82 rfl ?_
              refine pw_bipush (x := 50) h d_X4_readWeight_83 (by decide) ?_
              refine pw_icmp_le 97 h d_X4_readWeight_85 (by decide) (fun c_85 => ?_) (fun c_85 => ?_)
              · skip
                have hb3 : 1 ≤ (numZ (I 12) T (skB (I 12) (skB (I 12) ((numZ (I 12) T (skB (I 12) (a + 1) T)).1) T + 1) T)).2 ∧ (numZ (I 12) T (skB (I 12) (skB (I 12) ((numZ (I 12) T (skB (I 12) (a + 1) T)).1) T + 1) T)).2 ≤ 50 := by have k1 := i_nlt c_79; have k2 := i_le c_85; rw [e2_70, hd3.2.1] at k1 k2; have z : (50 : Int32).toInt = 50 := rfl; have z2 : (1 : Int32).toInt = 1 := rfl; omega
                refine pw_aload_n h 2 d_X4_readWeight_97 rfl ?_
                refine pw_getR (j := 14) 4 h d_X4_readWeight_98 fd_RX4_12 (by assumption) rfl (by assumption) ?_
                refine pw_getR (j := 19) 2 h d_X4_readWeight_101 fd_RX4_83 (by assumption) rfl (by assumption) ?_
                refine pw_iload_n h 1 d_X4_readWeight_104 rfl ?_
                refine pw_iload_n h 0 d_X4_readWeight_105 rfl ?_
                refine pw_iast h d_X4_readWeight_106 (by assumption) (by assumption) ?_
                refine pw_iconst (x := 1) h d_X4_readWeight_107 (by decide) ?_
                refine pw_iret h hr d_X4_readWeight_108 (by decide) (by decide) (by decide) ?_
                have hv : v2_70.toInt = (((numZ (I 12) T (skB (I 12) (skB (I 12) ((numZ (I 12) T (skB (I 12) (a + 1) T)).1) T + 1) T)).2 : Nat) : Int) := by rw [e2_70, hd3.2.1]; omega
                exact ⟨rfl, rfl, rfl, frD_t fD3 (fun b k c => u2_n1 (by omega)), Or.inl ⟨rfl, _, by unfold pW; rw [if_pos hd1.1, if_pos hb]; unfold pW2; rw [if_pos (ht2 c_54).1, if_pos hd3.1, if_pos hb3], by unfold pW; rw [if_pos hd1.1, if_pos hb]; unfold pW2; rw [if_pos (ht2 c_54).1, if_pos hd3.1, if_pos hb3]; exact rd_weight (RdI_at hR2 fR3 hd3.2.2 hze3.2) hv hb3.2⟩⟩
              · skip
                have hb3 : ¬ (1 ≤ (numZ (I 12) T (skB (I 12) (skB (I 12) ((numZ (I 12) T (skB (I 12) (a + 1) T)).1) T + 1) T)).2 ∧ (numZ (I 12) T (skB (I 12) (skB (I 12) ((numZ (I 12) T (skB (I 12) (a + 1) T)).1) T + 1) T)).2 ≤ 50) := by intro q; have := i_nle c_85; rw [e2_70, hd3.2.1] at this; have z : (50 : Int32).toInt = 50 := rfl; omega
                refine pw_aload_n h 2 d_X4_readWeight_88 rfl ?_
                refine pw_aload_n h 2 d_X4_readWeight_89 rfl ?_
                refine pw_getI 4 h d_X4_readWeight_90 fd_RX4_29 (by assumption) rfl ?_
                refine pw_callV (As := [.int _]) h d_X4_readWeight_93 mf_X4_fail mi_X4_fail ml_RX4_58 ⟨by decide, by decide, by decide⟩ (by assumption) rfl rfl (Nat.le_of_ble_eq_true rfl) trivial (c_X4_fail q0 _) ?_
                refine PKk.ret ?_
                refine pw_iret h hr d_X4_readWeight_96 rfl (by decide) (by decide) ?_
                exact ⟨rfl, rfl, rfl, frD_t fD3 (frR_D fail_fr), Or.inr ⟨rfl, by unfold pW; rw [if_pos hd1.1, if_pos hb]; unfold pW2; rw [if_pos (ht2 c_54).1, if_pos hd3.1, if_neg hb3], by unfold pW; rw [if_pos hd1.1, if_pos hb]; unfold pW2; rw [if_pos (ht2 c_54).1, if_pos hd3.1, if_neg hb3]; exact by rw [u2_s]; exact hn3⟩⟩
          · skip
            have hd3 : isDg (I 12) (skB (I 12) (skB (I 12) ((numZ (I 12) T (skB (I 12) (a + 1) T)).1) T + 1) T) T = false ∧ I3 13 5 = nI (skB (I 12) (skB (I 12) ((numZ (I 12) T (skB (I 12) (a + 1) T)).1) T + 1) T) := rn_no hx3 (by rw [← e2_70]; exact c_72)
            refine pw_iconst (x := 0) h d_X4_readWeight_75 (by decide) ?_
            refine pw_iret h hr d_X4_readWeight_76 rfl (by decide) (by decide) ?_
            exact ⟨rfl, rfl, rfl, fD3, Or.inr ⟨rfl, by unfold pW; rw [if_pos hd1.1, if_pos hb]; unfold pW2; rw [if_pos (ht2 c_54).1, if_neg (by rw [hd3.1]; decide)], by unfold pW; rw [if_pos hd1.1, if_pos hb]; unfold pW2; rw [if_pos (ht2 c_54).1, if_neg (by rw [hd3.1]; decide)]; exact hd3.2⟩⟩
        · skip
          rw [bI_1] at c_54
          have hR2 : RdI I2 T (skB (I 12) ((numZ (I 12) T (skB (I 12) (a + 1) T)).1) T) D := RdI_at hR1 fR2 (hf2 c_54).2 hskE.2
          refine pw_aload_n h 1 d_X4_readWeight_57 rfl ?_
          refine pw_aload_n h 1 d_X4_readWeight_58 rfl ?_
          refine pw_getI 4 h d_X4_readWeight_59 fd_RX4_26 (by assumption) rfl ?_
          refine pw_callV (As := [.int _]) h d_X4_readWeight_62 mf_X4_fail mi_X4_fail ml_RX4_58 ⟨by decide, by decide, by decide⟩ (by assumption) rfl rfl (Nat.le_of_ble_eq_true rfl) trivial (c_X4_fail q0 _) ?_
          refine PKk.ret ?_
          refine pw_iret h hr d_X4_readWeight_65 rfl (by decide) (by decide) ?_
          exact ⟨rfl, rfl, rfl, frD_t fD2 (frR_D fail_fr), Or.inr ⟨rfl, by unfold pW; rw [if_pos hd1.1, if_pos hb]; unfold pW2; rw [if_neg (hf2 c_54).1], by unfold pW; rw [if_pos hd1.1, if_pos hb]; unfold pW2; rw [if_neg (hf2 c_54).1]; exact by rw [u2_s]; exact hR2.2.1⟩⟩
      · skip
        have hb : ¬ ((numZ (I 12) T (skB (I 12) (a + 1) T)).2 ≤ 12 ∧ ¬ 0 < D.2.1 ((numZ (I 12) T (skB (I 12) (a + 1) T)).2)) := fun q => q.2 (by rw [← hw19]; exact i_nle c_36)
        refine pw_aload_n h 1 d_X4_readWeight_39 rfl ?_
        refine pw_aload_n h 1 d_X4_readWeight_40 rfl ?_
        refine pw_getI 4 h d_X4_readWeight_41 fd_RX4_29 (by assumption) rfl ?_
        refine pw_callV (As := [.int _]) h d_X4_readWeight_44 mf_X4_fail mi_X4_fail ml_RX4_58 ⟨by decide, by decide, by decide⟩ (by assumption) rfl rfl (Nat.le_of_ble_eq_true rfl) trivial (c_X4_fail q0 _) ?_
        refine PKk.ret ?_
        refine pw_iret h hr d_X4_readWeight_47 rfl (by decide) (by decide) ?_
        exact ⟨rfl, rfl, rfl, frD_t fD1 (frR_D fail_fr), Or.inr ⟨rfl, by unfold pW; rw [if_pos hd1.1, if_neg hb], by unfold pW; rw [if_pos hd1.1, if_neg hb]; exact by rw [u2_s]; exact hn1⟩⟩
  · skip
    have hd1 : isDg (I 12) (skB (I 12) (a + 1) T) T = false ∧ I1 13 5 = nI (skB (I 12) (a + 1) T) := rn_no hx1 (by rw [← e1_14]; exact c_16)
    refine pw_iconst (x := 0) h d_X4_readWeight_19 (by decide) ?_
    refine pw_iret h hr d_X4_readWeight_20 rfl (by decide) (by decide) ?_
    exact ⟨rfl, rfl, rfl, fD1, Or.inr ⟨rfl, by unfold pW; rw [if_neg (by rw [hd1.1]; decide)], by unfold pW; rw [if_neg (by rw [hd1.1]; decide)]; exact hd1.2⟩⟩

set_option maxHeartbeats 4000000 in
set_option maxRecDepth 100000 in
theorem c_X4_readBearing {sh : Sh} {I : IM} {L : LM} {R : RM} {T a : Nat} {D : DR} (hD : ReadF sh R 13 12) (hRD : RdI I T a D) (haT : a < T) (h6 : D.1.length < 6) : PMet M_X4_readBearing [.ref 13] sh I L R (rdP sh I L R T (pB (I 12) T (a + 1) D)) := by
  refine PMet.of mf_X4_readBearing (Nat.le_of_ble_eq_true rfl) ?_
  intro X h hr hml
  have hml : (xc X).maxLocals = 4 := hml
  have h : PXok X RX4 cX4_readBearing 4 0 0 := h
  have hr : PXr X (some .boolean) "readBearing" _ 0 0 := hr
  have hD0 := hD
  obtain ⟨q0, q1, hL, q3, q4, qn⟩ := id hD
  have hL0 := hL
  obtain ⟨f0, f1, f2, f3, f4, f5, g1, g2, g3, g4, g5⟩ := id hL
  have hT2 := hRD.2.2.2.1
  show PW X 0 [(0, .ref 13)] [] sh I L R 0 0
  refine pw_aload_n h 0 d_X4_readBearing_0 rfl ?_
  refine pw_dupR h d_X4_readBearing_1 ?_
  refine pw_getI 4 h d_X4_readBearing_2 fd_RX4_26 (by assumption) rfl ?_
  refine pw_iconst (x := 1) h d_X4_readBearing_5 (by decide) ?_
  refine pw_iadd h d_X4_readBearing_6 ?_
  refine pw_putI 4 h d_X4_readBearing_7 fd_RX4_26 (by assumption) rfl rfl rfl rfl ?_
  obtain ⟨I0, eI0⟩ : ∃ I0, I0 = u2 I 13 3 (I 13 3 + 1) := ⟨_, rfl⟩
  refine pw_mem (I' := I0) eI0.symm rfl rfl ?_
  have hR0 : RdI I0 T (a + 1) D := by rw [eI0]; exact (rd_inc hRD haT).1
  have fD0 : frD I I0 := by rw [eI0]; exact (rd_inc hRD haT).2
  have fx0 : I0 12 = I 12 := frD_f fD0
  refine pw_aload_n h 0 d_X4_readBearing_10 rfl ?_
  refine pw_callV (As := []) h d_X4_readBearing_11 mf_X4_readNumber mi_X4_readNumber ml_RX4_68 ⟨by decide, by decide, by decide⟩ (by assumption) rfl rfl (Nat.le_of_ble_eq_true rfl) trivial (c_X4_readNumber hD0 hR0.2.1 hR0.1 hT2 hR0.2.2.1) ?_
  intro ret1 sh1 I1 L1 R1 hp1
  obtain ⟨e1, eR, eL, fR1, hn1, x1, ex1, hx1⟩ := rn_post hp1
  have e1 := e1.symm
  have eR := eR.symm
  have eL := eL.symm
  subst e1
  subst eR
  subst eL
  subst ex1
  rw [fx0] at hn1 hx1
  have fD1 : frD I I1 := frD_t fD0 (frR_D fR1)
  have fx1 : I1 12 = I 12 := frD_f fD1
  have hsk1 := skB_le (f := I 12) hR0.2.2.1
  refine ⟨rfl, ?_⟩
  refine pw_nmI (fun v1_14 e1_14 => ?_)
  refine pw_istore_n (lv' := [(1, .int v1_14), (0, .ref 13)]) h d_X4_readBearing_14 rfl _ hml (by decide) rfl ?_
  refine pw_iload_n h 0 d_X4_readBearing_15 rfl ?_
  refine pw_if_ge 21 h d_X4_readBearing_16 (by decide) (fun c_16 => ?_) (fun c_16 => ?_)
  · skip
    have hd1 : isDg (I 12) (skB (I 12) (a + 1) T) T = true ∧ x1.toInt = ((min (numZ (I 12) T (skB (I 12) (a + 1) T)).2 1000 : Nat) : Int) ∧ I1 13 3 = nI (numZ (I 12) T (skB (I 12) (a + 1) T)).1 := rn_yes hx1 (by rw [← e1_14]; exact c_16)
    have hze1 := numZ_le (f := I 12) (T := T) (a := skB (I 12) (a + 1) T) (by omega)
    have hR1 : RdI I1 T ((numZ (I 12) T (skB (I 12) (a + 1) T)).1) D := RdI_at hR0 fR1 hd1.2.2 hze1.2
    have hskE := skB_le (f := I 12) (T := T) (a := (numZ (I 12) T (skB (I 12) (a + 1) T)).1) hze1.2
    refine pw_iload_n h 0 d_X4_readBearing_21 rfl ?_
    refine pw_bipush (x := 13) h d_X4_readBearing_22 (by decide) ?_
    refine pw_icmp_ge 38 h d_X4_readBearing_24 (by decide) (fun c_24 => ?_) (fun c_24 => ?_)
    · skip
      have hb : ¬ ((numZ (I 12) T (skB (I 12) (a + 1) T)).2 ≤ 12 ∧ hasP D.1 ((numZ (I 12) T (skB (I 12) (a + 1) T)).2) = false) := by intro q; have := i_le c_24; rw [e1_14, hd1.2.1] at this; have z : (13 : Int32).toInt = 13 := rfl; omega
      refine pw_aload_n h 1 d_X4_readBearing_38 rfl ?_
      refine pw_aload_n h 1 d_X4_readBearing_39 rfl ?_
      refine pw_getI 4 h d_X4_readBearing_40 fd_RX4_29 (by assumption) rfl ?_
      refine pw_callV (As := [.int _]) h d_X4_readBearing_43 mf_X4_fail mi_X4_fail ml_RX4_58 ⟨by decide, by decide, by decide⟩ (by assumption) rfl rfl (Nat.le_of_ble_eq_true rfl) trivial (c_X4_fail q0 _) ?_
      refine PKk.ret ?_
      refine pw_iret h hr d_X4_readBearing_46 rfl (by decide) (by decide) ?_
      exact ⟨rfl, rfl, rfl, frD_t fD1 (frR_D fail_fr), Or.inr ⟨rfl, by unfold pB; rw [if_pos hd1.1, if_neg hb], by unfold pB; rw [if_pos hd1.1, if_neg hb]; exact by rw [u2_s]; exact hn1⟩⟩
    · skip
      have hV : (numZ (I 12) T (skB (I 12) (a + 1) T)).2 ≤ 12 := by have := i_nle c_24; rw [e1_14, hd1.2.1] at this; have z : (13 : Int32).toInt = 13 := rfl; omega
      have hvv : v1_14.toInt = (((numZ (I 12) T (skB (I 12) (a + 1) T)).2 : Nat) : Int) := by rw [e1_14, hd1.2.1]; omega
      have hvn : v1_14 = nI ((numZ (I 12) T (skB (I 12) (a + 1) T)).2) := to_nI hvv
      have hln := hR1.2.2.2.2.1.2.1
      have hsr := has_srch hR1.2.2.2.2.2 hR1.2.2.2.2.1 (p := (numZ (I 12) T (skB (I 12) (a + 1) T)).2) (by omega)
      refine pw_aload_n h 1 d_X4_readBearing_27 rfl ?_
      refine pw_getR (j := 14) 4 h d_X4_readBearing_28 fd_RX4_12 (by assumption) rfl (by assumption) ?_
      refine pw_iload_n h 0 d_X4_readBearing_31 rfl ?_
      refine pw_callV (As := [.int _]) h d_X4_readBearing_32 mf_X2_bearingAt mi_X2_bearingAt ml_RX4_71 ⟨by decide, by decide, by decide⟩ (by assumption) rfl rfl (Nat.le_of_ble_eq_true rfl) trivial (c_X2_bearingAt hL0 (n := (foldI D.1).1) hR1.2.2.2.2.2.1 (by omega) _) ?_
      refine PKk.ret ?_
      refine pw_if_lt 47 h d_X4_readBearing_35 (by decide) (fun c_35 => ?_) (fun c_35 => ?_)
      · skip
        rw [srch_neg (show (foldI D.1).1 < 2 ^ 31 by omega) (show ((-1 : Int32)).toInt < 0 by decide), hvn] at c_35
        have hb : (numZ (I 12) T (skB (I 12) (a + 1) T)).2 ≤ 12 ∧ hasP D.1 ((numZ (I 12) T (skB (I 12) (a + 1) T)).2) = false := ⟨hV, hsr.mp c_35⟩
        refine pw_iconst (x := 0) h d_X4_readBearing_47 (by decide) ?_
        refine pw_nmI (fun v2_48 e2_48 => ?_)
        refine pw_istore_n (lv' := [(2, .int v2_48), (1, .int v1_14), (0, .ref 13)]) h d_X4_readBearing_48 rfl _ hml (by decide) rfl ?_
        refine pw_aload_n h 2 d_X4_readBearing_49 rfl ?_
        refine pw_bipush (x := 61) h d_X4_readBearing_50 (by decide) ?_
        refine pw_callV (As := [.int _]) h d_X4_readBearing_52 mf_X4_steps mi_X4_steps ml_RX4_75 ⟨by decide, by decide, by decide⟩ (by assumption) rfl rfl (Nat.le_of_ble_eq_true rfl) trivial (c_X4_steps hD0 hR1.2.1 hR1.1 hT2 hR1.2.2.1 _) ?_
        intro ret2 sh2 I2 L2 R2 hp2
        obtain ⟨e1, eR, eL, fR2, bb2, ex2, ht2, hf2⟩ := st_post hp2
        have e1 := e1.symm
        have eR := eR.symm
        have eL := eL.symm
        subst e1
        subst eR
        subst eL
        subst ex2
        rw [fx1] at ht2 hf2
        have fD2 : frD I I2 := frD_t fD1 (frR_D fR2)
        have fx2 : I2 12 = I 12 := frD_f fD2
        have hsk2 := skB_le (f := I 12) hR1.2.2.1
        refine ⟨rfl, ?_⟩
        refine pw_if_eq 102 h d_X4_readBearing_55 (by decide) (fun c_55 => ?_) (fun c_55 => ?_)
        · skip
          rw [bI_1] at c_55
          have hR2 : RdI I2 T (skB (I 12) ((numZ (I 12) T (skB (I 12) (a + 1) T)).1) T) D := RdI_at hR1 fR2 (hf2 c_55).2 hskE.2
          refine pw_aload_n h 2 d_X4_readBearing_102 rfl ?_
          refine pw_getR (j := 14) 4 h d_X4_readBearing_103 fd_RX4_12 (by assumption) rfl (by assumption) ?_
          refine pw_iload_n h 1 d_X4_readBearing_106 rfl ?_
          refine pw_iload_n h 0 d_X4_readBearing_107 rfl ?_
          refine pw_callV (As := [.int _, .int _]) h d_X4_readBearing_108 mf_X2_insert mi_X2_insert ml_RX4_79 ⟨by decide, by decide, by decide⟩ (by assumption) rfl rfl (Nat.le_of_ble_eq_true rfl) trivial (c_X2_insert hL0 (n := (foldI D.1).1) (by first | exact hR4.2.2.2.2.2.1 | exact hR2.2.2.2.2.2.1) (by omega) (by omega) _ _) ?_
          refine PKk.ret ?_
          refine pw_popI h d_X4_readBearing_111 ?_
          refine pw_iconst (x := 1) h d_X4_readBearing_112 (by decide) ?_
          refine pw_iret h hr d_X4_readBearing_113 (by decide) (by decide) (by decide) ?_
          first
            | exact ⟨rfl, rfl, rfl, frD_t fD4 ins_frD, Or.inl ⟨rfl, _, by unfold pB; rw [if_pos hd1.1, if_pos hb, pB2_b (ht2 c_55).1 hP4t hP4f, if_pos hd4.1, if_pos hb4], by unfold pB; rw [if_pos hd1.1, if_pos hb, pB2_b (ht2 c_55).1 hP4t hP4f, if_pos hd4.1, if_pos hb4]; exact rd_bear hR4 h6 (by omega) hvn hb.2 (by rw [if_pos c_92, e2_101]; exact neg_small hv4 hb4) (by rw [if_pos c_92]; omega)⟩⟩
            | exact ⟨rfl, rfl, rfl, frD_t fD4 ins_frD, Or.inl ⟨rfl, _, by unfold pB; rw [if_pos hd1.1, if_pos hb, pB2_b (ht2 c_55).1 hP4t hP4f, if_pos hd4.1, if_pos hb4], by unfold pB; rw [if_pos hd1.1, if_pos hb, pB2_b (ht2 c_55).1 hP4t hP4f, if_pos hd4.1, if_pos hb4]; exact rd_bear hR4 h6 (by omega) hvn hb.2 (by rw [if_neg (by rw [c_92]; decide), e2_101]; exact hv4) (by rw [if_neg (by rw [c_92]; decide)]; omega)⟩⟩
            | exact ⟨rfl, rfl, rfl, frD_t fD2 ins_frD, Or.inl ⟨rfl, _, by unfold pB; rw [if_pos hd1.1, if_pos hb]; unfold pB2; rw [if_neg (hf2 c_55).1], by unfold pB; rw [if_pos hd1.1, if_pos hb]; unfold pB2; rw [if_neg (hf2 c_55).1]; exact rd_bear hR2 h6 (by omega) hvn hb.2 (by rw [e2_48]; rfl) (by omega)⟩⟩
        · skip
          rw [bI_1, Bool.not_eq_false] at c_55
          have hltE : skB (I 12) ((numZ (I 12) T (skB (I 12) (a + 1) T)).1) T < T := nxt_lt (ht2 c_55).1 (by decide)
          have hR2 : RdI I2 T (skB (I 12) ((numZ (I 12) T (skB (I 12) (a + 1) T)).1) T + 1) D := RdI_at hR1 fR2 (ht2 c_55).2 hltE
          refine pw_aload_n h 2 d_X4_readBearing_58 rfl ?_
          refine pw_bipush (x := 45) h d_X4_readBearing_59 (by decide) ?_
          refine pw_callV (As := [.int _]) h d_X4_readBearing_61 mf_X4_steps mi_X4_steps ml_RX4_75 ⟨by decide, by decide, by decide⟩ (by assumption) rfl rfl (Nat.le_of_ble_eq_true rfl) trivial (c_X4_steps hD0 hR2.2.1 hR2.1 hT2 hR2.2.2.1 _) ?_
          intro ret3 sh3 I3 L3 R3 hp3
          obtain ⟨e1, eR, eL, fR3, bb3, ex3, ht3, hf3⟩ := st_post hp3
          have e1 := e1.symm
          have eR := eR.symm
          have eL := eL.symm
          subst e1
          subst eR
          subst eL
          subst ex3
          rw [fx2] at ht3 hf3
          have fD3 : frD I I3 := frD_t fD2 (frR_D fR3)
          have fx3 : I3 12 = I 12 := frD_f fD3
          have hsk3 := skB_le (f := I 12) hR2.2.2.1
          refine ⟨rfl, ?_⟩
          refine pw_nmI (fun v3_64 e3_64 => ?_)
          refine pw_istore_n (lv' := [(3, .int v3_64), (2, .int v2_48), (1, .int v1_14), (0, .ref 13)]) h d_X4_readBearing_64 rfl _ hml (by decide) rfl ?_
          obtain ⟨a4, ha4, h4t, h4f⟩ := a4_of ht3 hf3
          have hsk3 := skB_le (f := I 12) (T := T) (a := skB (I 12) ((numZ (I 12) T (skB (I 12) (a + 1) T)).1) T + 1) (by omega)
          have ha4T : a4 ≤ T := by cases bb3 with
      | true => have h := h4t rfl; have := nxt_lt h.2 (by decide); omega
      | false => have h := h4f rfl; omega
          have hR3 : RdI I3 T a4 D := RdI_at hR2 fR3 ha4 ha4T
          have hP4t : bb3 = true → nxt (I 12) (skB (I 12) (skB (I 12) ((numZ (I 12) T (skB (I 12) (a + 1) T)).1) T + 1) T) T = 45 ∧ skB (I 12) a4 T = skB (I 12) (skB (I 12) (skB (I 12) ((numZ (I 12) T (skB (I 12) (a + 1) T)).1) T + 1) T + 1) T := fun q => ⟨(h4t q).2, by rw [(h4t q).1]⟩
          have hP4f : bb3 = false → ¬ nxt (I 12) (skB (I 12) (skB (I 12) ((numZ (I 12) T (skB (I 12) (a + 1) T)).1) T + 1) T) T = 45 ∧ skB (I 12) a4 T = skB (I 12) (skB (I 12) ((numZ (I 12) T (skB (I 12) (a + 1) T)).1) T + 1) T := fun q => ⟨(h4f q).2, by rw [(h4f q).1]; exact skB_idem (by omega)⟩
          refine pw_aload_n h 3 d_X4_readBearing_65 rfl ?_
          refine pw_callV (As := []) h d_X4_readBearing_66 mf_X4_readNumber mi_X4_readNumber ml_RX4_68 ⟨by decide, by decide, by decide⟩ (by assumption) rfl rfl (Nat.le_of_ble_eq_true rfl) trivial (c_X4_readNumber hD0 hR3.2.1 hR3.1 hT2 hR3.2.2.1) ?_
          intro ret4 sh4 I4 L4 R4 hp4
          obtain ⟨e1, eR, eL, fR4, hn4, x4, ex4, hx4⟩ := rn_post hp4
          have e1 := e1.symm
          have eR := eR.symm
          have eL := eL.symm
          subst e1
          subst eR
          subst eL
          subst ex4
          rw [fx3] at hn4 hx4
          have fD4 : frD I I4 := frD_t fD3 (frR_D fR4)
          have fx4 : I4 12 = I 12 := frD_f fD4
          have hsk4 := skB_le (f := I 12) hR3.2.2.1
          refine ⟨rfl, ?_⟩
          refine pw_nmI (fun v2_69 e2_69 => ?_)
          refine pw_istore_n (lv' := [(2, .int v2_69), (3, .int v3_64), (1, .int v1_14), (0, .ref 13)]) h d_X4_readBearing_69 rfl _ hml (by decide) rfl ?_
          refine pw_iload_n h 0 d_X4_readBearing_70 rfl ?_
          refine pw_if_ge 76 h d_X4_readBearing_71 (by decide) (fun c_71 => ?_) (fun c_71 => ?_)
          · skip
            have hd4 : isDg (I 12) (skB (I 12) a4 T) T = true ∧ x4.toInt = ((min (numZ (I 12) T (skB (I 12) a4 T)).2 1000 : Nat) : Int) ∧ I4 13 3 = nI (numZ (I 12) T (skB (I 12) a4 T)).1 := rn_yes hx4 (by rw [← e2_69]; exact c_71)
            have hze4 := numZ_le (f := I 12) (T := T) (a := skB (I 12) a4 T) (by omega)
            refine pw_iload_n h 0 d_X4_readBearing_76 rfl ?_
            refine pw_bipush (x := 50) h d_X4_readBearing_77 (by decide) ?_
            refine pw_icmp_le 91 h d_X4_readBearing_79 (by decide) (fun c_79 => ?_) (fun c_79 => ?_)
            · skip
              have hb4 : (numZ (I 12) T (skB (I 12) a4 T)).2 ≤ 50 := by have k2 := i_le c_79; rw [e2_69, hd4.2.1] at k2; have z : (50 : Int32).toInt = 50 := rfl; omega
              have hv4 : v2_69.toInt = (((numZ (I 12) T (skB (I 12) a4 T)).2 : Nat) : Int) := by rw [e2_69, hd4.2.1]; omega
              have hR4 := RdI_at hR3 fR4 hd4.2.2 hze4.2
              refine pw_iload_n h 1 d_X4_readBearing_91 rfl ?_
              refine pw_if_eq 100 h d_X4_readBearing_92 (by decide) (fun c_92 => ?_) (fun c_92 => ?_)
              · skip
                rw [e3_64, bI_1] at c_92
                refine pw_iload_n h 0 d_X4_readBearing_100 rfl ?_
                refine pw_nmI (fun v2_101 e2_101 => ?_)
                refine pw_istore_n (lv' := [(2, .int v2_101), (3, .int v3_64), (1, .int v1_14), (0, .ref 13)]) h d_X4_readBearing_101 rfl _ hml (by decide) rfl ?_
                refine pw_aload_n h 3 d_X4_readBearing_102 rfl ?_
                refine pw_getR (j := 14) 4 h d_X4_readBearing_103 fd_RX4_12 (by assumption) rfl (by assumption) ?_
                refine pw_iload_n h 2 d_X4_readBearing_106 rfl ?_
                refine pw_iload_n h 0 d_X4_readBearing_107 rfl ?_
                refine pw_callV (As := [.int _, .int _]) h d_X4_readBearing_108 mf_X2_insert mi_X2_insert ml_RX4_79 ⟨by decide, by decide, by decide⟩ (by assumption) rfl rfl (Nat.le_of_ble_eq_true rfl) trivial (c_X2_insert hL0 (n := (foldI D.1).1) (by first | exact hR4.2.2.2.2.2.1 | exact hR2.2.2.2.2.2.1) (by omega) (by omega) _ _) ?_
                refine PKk.ret ?_
                refine pw_popI h d_X4_readBearing_111 ?_
                refine pw_iconst (x := 1) h d_X4_readBearing_112 (by decide) ?_
                refine pw_iret h hr d_X4_readBearing_113 (by decide) (by decide) (by decide) ?_
                first
                  | exact ⟨rfl, rfl, rfl, frD_t fD4 ins_frD, Or.inl ⟨rfl, _, by unfold pB; rw [if_pos hd1.1, if_pos hb, pB2_b (ht2 c_55).1 hP4t hP4f, if_pos hd4.1, if_pos hb4], by unfold pB; rw [if_pos hd1.1, if_pos hb, pB2_b (ht2 c_55).1 hP4t hP4f, if_pos hd4.1, if_pos hb4]; exact rd_bear hR4 h6 (by omega) hvn hb.2 (by rw [if_pos c_92, e2_101]; exact neg_small hv4 hb4) (by rw [if_pos c_92]; omega)⟩⟩
                  | exact ⟨rfl, rfl, rfl, frD_t fD4 ins_frD, Or.inl ⟨rfl, _, by unfold pB; rw [if_pos hd1.1, if_pos hb, pB2_b (ht2 c_55).1 hP4t hP4f, if_pos hd4.1, if_pos hb4], by unfold pB; rw [if_pos hd1.1, if_pos hb, pB2_b (ht2 c_55).1 hP4t hP4f, if_pos hd4.1, if_pos hb4]; exact rd_bear hR4 h6 (by omega) hvn hb.2 (by rw [if_neg (by rw [c_92]; decide), e2_101]; exact hv4) (by rw [if_neg (by rw [c_92]; decide)]; omega)⟩⟩
                  | exact ⟨rfl, rfl, rfl, frD_t fD2 ins_frD, Or.inl ⟨rfl, _, by unfold pB; rw [if_pos hd1.1, if_pos hb]; unfold pB2; rw [if_neg (hf2 c_55).1], by unfold pB; rw [if_pos hd1.1, if_pos hb]; unfold pB2; rw [if_neg (hf2 c_55).1]; exact rd_bear hR2 h6 (by omega) hvn hb.2 (by rw [e2_48]; rfl) (by omega)⟩⟩
              · skip
                rw [e3_64, bI_1, Bool.not_eq_false] at c_92
                refine pw_iload_n h 0 d_X4_readBearing_95 rfl ?_
                refine pw_ineg h d_X4_readBearing_96 ?_
                refine pw_goto 101 h d_X4_readBearing_97 (by decide) ?_
                refine pw_nmI (fun v2_101 e2_101 => ?_)
                refine pw_istore_n (lv' := [(2, .int v2_101), (3, .int v3_64), (1, .int v1_14), (0, .ref 13)]) h d_X4_readBearing_101 rfl _ hml (by decide) rfl ?_
                refine pw_aload_n h 3 d_X4_readBearing_102 rfl ?_
                refine pw_getR (j := 14) 4 h d_X4_readBearing_103 fd_RX4_12 (by assumption) rfl (by assumption) ?_
                refine pw_iload_n h 2 d_X4_readBearing_106 rfl ?_
                refine pw_iload_n h 0 d_X4_readBearing_107 rfl ?_
                refine pw_callV (As := [.int _, .int _]) h d_X4_readBearing_108 mf_X2_insert mi_X2_insert ml_RX4_79 ⟨by decide, by decide, by decide⟩ (by assumption) rfl rfl (Nat.le_of_ble_eq_true rfl) trivial (c_X2_insert hL0 (n := (foldI D.1).1) (by first | exact hR4.2.2.2.2.2.1 | exact hR2.2.2.2.2.2.1) (by omega) (by omega) _ _) ?_
                refine PKk.ret ?_
                refine pw_popI h d_X4_readBearing_111 ?_
                refine pw_iconst (x := 1) h d_X4_readBearing_112 (by decide) ?_
                refine pw_iret h hr d_X4_readBearing_113 (by decide) (by decide) (by decide) ?_
                first
                  | exact ⟨rfl, rfl, rfl, frD_t fD4 ins_frD, Or.inl ⟨rfl, _, by unfold pB; rw [if_pos hd1.1, if_pos hb, pB2_b (ht2 c_55).1 hP4t hP4f, if_pos hd4.1, if_pos hb4], by unfold pB; rw [if_pos hd1.1, if_pos hb, pB2_b (ht2 c_55).1 hP4t hP4f, if_pos hd4.1, if_pos hb4]; exact rd_bear hR4 h6 (by omega) hvn hb.2 (by rw [if_pos c_92, e2_101]; exact neg_small hv4 hb4) (by rw [if_pos c_92]; omega)⟩⟩
                  | exact ⟨rfl, rfl, rfl, frD_t fD4 ins_frD, Or.inl ⟨rfl, _, by unfold pB; rw [if_pos hd1.1, if_pos hb, pB2_b (ht2 c_55).1 hP4t hP4f, if_pos hd4.1, if_pos hb4], by unfold pB; rw [if_pos hd1.1, if_pos hb, pB2_b (ht2 c_55).1 hP4t hP4f, if_pos hd4.1, if_pos hb4]; exact rd_bear hR4 h6 (by omega) hvn hb.2 (by rw [if_neg (by rw [c_92]; decide), e2_101]; exact hv4) (by rw [if_neg (by rw [c_92]; decide)]; omega)⟩⟩
                  | exact ⟨rfl, rfl, rfl, frD_t fD2 ins_frD, Or.inl ⟨rfl, _, by unfold pB; rw [if_pos hd1.1, if_pos hb]; unfold pB2; rw [if_neg (hf2 c_55).1], by unfold pB; rw [if_pos hd1.1, if_pos hb]; unfold pB2; rw [if_neg (hf2 c_55).1]; exact rd_bear hR2 h6 (by omega) hvn hb.2 (by rw [e2_48]; rfl) (by omega)⟩⟩
            · skip
              have hb4 : ¬ (numZ (I 12) T (skB (I 12) a4 T)).2 ≤ 50 := by intro q; have := i_nle c_79; rw [e2_69, hd4.2.1] at this; have z : (50 : Int32).toInt = 50 := rfl; omega
              refine pw_aload_n h 3 d_X4_readBearing_82 rfl ?_
              refine pw_aload_n h 3 d_X4_readBearing_83 rfl ?_
              refine pw_getI 4 h d_X4_readBearing_84 fd_RX4_29 (by assumption) rfl ?_
              refine pw_callV (As := [.int _]) h d_X4_readBearing_87 mf_X4_fail mi_X4_fail ml_RX4_58 ⟨by decide, by decide, by decide⟩ (by assumption) rfl rfl (Nat.le_of_ble_eq_true rfl) trivial (c_X4_fail q0 _) ?_
              refine PKk.ret ?_
              refine pw_iret h hr d_X4_readBearing_90 rfl (by decide) (by decide) ?_
              exact ⟨rfl, rfl, rfl, frD_t fD4 (frR_D fail_fr), Or.inr ⟨rfl, by unfold pB; rw [if_pos hd1.1, if_pos hb, pB2_b (ht2 c_55).1 hP4t hP4f, if_pos hd4.1, if_neg hb4], by unfold pB; rw [if_pos hd1.1, if_pos hb, pB2_b (ht2 c_55).1 hP4t hP4f, if_pos hd4.1, if_neg hb4]; exact by rw [u2_s]; exact hn4⟩⟩
          · skip
            have hd4 : isDg (I 12) (skB (I 12) a4 T) T = false ∧ I4 13 5 = nI (skB (I 12) a4 T) := rn_no hx4 (by rw [← e2_69]; exact c_71)
            refine pw_iconst (x := 0) h d_X4_readBearing_74 (by decide) ?_
            refine pw_iret h hr d_X4_readBearing_75 rfl (by decide) (by decide) ?_
            exact ⟨rfl, rfl, rfl, fD4, Or.inr ⟨rfl, by unfold pB; rw [if_pos hd1.1, if_pos hb, pB2_b (ht2 c_55).1 hP4t hP4f, if_neg (by rw [hd4.1]; decide)], by unfold pB; rw [if_pos hd1.1, if_pos hb, pB2_b (ht2 c_55).1 hP4t hP4f, if_neg (by rw [hd4.1]; decide)]; exact hd4.2⟩⟩
      · skip
        rw [srch_neg (show (foldI D.1).1 < 2 ^ 31 by omega) (show ((-1 : Int32)).toInt < 0 by decide), hvn] at c_35
        have hb : ¬ ((numZ (I 12) T (skB (I 12) (a + 1) T)).2 ≤ 12 ∧ hasP D.1 ((numZ (I 12) T (skB (I 12) (a + 1) T)).2) = false) := fun q => c_35 (hsr.mpr q.2)
        refine pw_aload_n h 1 d_X4_readBearing_38 rfl ?_
        refine pw_aload_n h 1 d_X4_readBearing_39 rfl ?_
        refine pw_getI 4 h d_X4_readBearing_40 fd_RX4_29 (by assumption) rfl ?_
        refine pw_callV (As := [.int _]) h d_X4_readBearing_43 mf_X4_fail mi_X4_fail ml_RX4_58 ⟨by decide, by decide, by decide⟩ (by assumption) rfl rfl (Nat.le_of_ble_eq_true rfl) trivial (c_X4_fail q0 _) ?_
        refine PKk.ret ?_
        refine pw_iret h hr d_X4_readBearing_46 rfl (by decide) (by decide) ?_
        exact ⟨rfl, rfl, rfl, frD_t fD1 (frR_D fail_fr), Or.inr ⟨rfl, by unfold pB; rw [if_pos hd1.1, if_neg hb], by unfold pB; rw [if_pos hd1.1, if_neg hb]; exact by rw [u2_s]; exact hn1⟩⟩
  · skip
    have hd1 : isDg (I 12) (skB (I 12) (a + 1) T) T = false ∧ I1 13 5 = nI (skB (I 12) (a + 1) T) := rn_no hx1 (by rw [← e1_14]; exact c_16)
    refine pw_iconst (x := 0) h d_X4_readBearing_19 (by decide) ?_
    refine pw_iret h hr d_X4_readBearing_20 rfl (by decide) (by decide) ?_
    exact ⟨rfl, rfl, rfl, fD1, Or.inr ⟨rfl, by unfold pB; rw [if_neg (by rw [hd1.1]; decide)], by unfold pB; rw [if_neg (by rw [hd1.1]; decide)]; exact hd1.2⟩⟩
