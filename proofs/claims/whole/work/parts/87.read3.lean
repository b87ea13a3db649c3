set_option maxHeartbeats 4000000 in
set_option maxRecDepth 100000 in
theorem c_X4_readStiffness {sh : Sh} {I : IM} {L : LM} {R : RM} {T a : Nat} {D : DR} (hD : ReadF sh R 13 12) (hRD : RdI I T a D) (haT : a < T) : PMet M_X4_readStiffness [.ref 13] sh I L R (rdP sh I L R T (pF (I 12) T (a + 1) D)) := by
  refine PMet.of mf_X4_readStiffness (Nat.le_of_ble_eq_true rfl) ?_
  intro X h hr hml
  have hml : (xc X).maxLocals = 2 := hml
  have h : PXok X RX4 cX4_readStiffness 4 0 0 := h
  have hr : PXr X (some .boolean) "readStiffness" _ 0 0 := hr
  have hD0 := hD
  obtain ⟨q0, q1, hL, q3, q4, qn⟩ := id hD
  have hL0 := hL
  obtain ⟨f0, f1, f2, f3, f4, f5, g1, g2, g3, g4, g5⟩ := id hL
  have hT2 := hRD.2.2.2.1
  show PW X 0 [(0, .ref 13)] [] sh I L R 0 0
  refine pw_aload_n h 0 d_X4_readStiffness_0 rfl ?_
  refine pw_dupR h d_X4_readStiffness_1 ?_
  refine pw_getI 4 h d_X4_readStiffness_2 fd_RX4_26 (by assumption) rfl ?_
  refine pw_iconst (x := 1) h d_X4_readStiffness_5 (by decide) ?_
  refine pw_iadd h d_X4_readStiffness_6 ?_
  refine pw_putI 4 h d_X4_readStiffness_7 fd_RX4_26 (by assumption) rfl rfl rfl rfl ?_
  obtain ⟨I0, eI0⟩ : ∃ I0, I0 = u2 I 13 3 (I 13 3 + 1) := ⟨_, rfl⟩
  refine pw_mem (I' := I0) eI0.symm rfl rfl ?_
  have hR0 : RdI I0 T (a + 1) D := by rw [eI0]; exact (rd_inc hRD haT).1
  have fD0 : frD I I0 := by rw [eI0]; exact (rd_inc hRD haT).2
  have fx0 : I0 12 = I 12 := frD_f fD0
  refine pw_aload_n h 0 d_X4_readStiffness_10 rfl ?_
  refine pw_callV (As := []) h d_X4_readStiffness_11 mf_X4_readNumber mi_X4_readNumber ml_RX4_68 ⟨by decide, by decide, by decide⟩ (by assumption) rfl rfl (Nat.le_of_ble_eq_true rfl) trivial (c_X4_readNumber hD0 hR0.2.1 hR0.1 hT2 hR0.2.2.1) ?_
  intro ret1 sh1 I1 L1 R1 hp1
  obtain ⟨e1, eR, eL, fR1, hn1, x1, ex1, hx1⟩ := rn_post hp1
  have e1 := e1.symm
  have eR := eR.symm
  have eL := eL.symm
  subst e1
  subst eR
  subst eL
  subst ex1
  rw [fx0] at hn1 hx1
  have fD1 : frD I I1 := frD_t fD0 (frR_D fR1)
  have fx1 : I1 12 = I 12 := frD_f fD1
  have hsk1 := skB_le (f := I 12) hR0.2.2.1
  refine ⟨rfl, ?_⟩
  refine pw_nmI (fun v1_14 e1_14 => ?_)
  refine pw_istore_n (lv' := [(1, .int v1_14), (0, .ref 13)]) h d_X4_readStiffness_14 rfl _ hml (by decide) rfl ?_
  refine pw_iload_n h 0 d_X4_readStiffness_15 rfl ?_
  refine pw_if_ge 21 h d_X4_readStiffness_16 (by decide) (fun c_16 => ?_) (fun c_16 => ?_)
  · skip
    have hd1 : isDg (I 12) (skB (I 12) (a + 1) T) T = true ∧ x1.toInt = ((min (numZ (I 12) T (skB (I 12) (a + 1) T)).2 1000 : Nat) : Int) ∧ I1 13 3 = nI (numZ (I 12) T (skB (I 12) (a + 1) T)).1 := rn_yes hx1 (by rw [← e1_14]; exact c_16)
    have hze1 := numZ_le (f := I 12) (T := T) (a := skB (I 12) (a + 1) T) (by omega)
    refine pw_iload_n h 0 d_X4_readStiffness_21 rfl ?_
    refine pw_iconst (x := 1) h d_X4_readStiffness_22 (by decide) ?_
    refine pw_icmp_lt 32 h d_X4_readStiffness_23 (by decide) (fun c_23 => ?_) (fun c_23 => ?_)
    · skip
      have hb : ¬ (1 ≤ (numZ (I 12) T (skB (I 12) (a + 1) T)).2 ∧ (numZ (I 12) T (skB (I 12) (a + 1) T)).2 ≤ 20) := by intro q; have := i_lt c_23; rw [e1_14, hd1.2.1] at this; have z : (1 : Int32).toInt = 1 := rfl; omega
      refine pw_aload_n h 1 d_X4_readStiffness_32 rfl ?_
      refine pw_aload_n h 1 d_X4_readStiffness_33 rfl ?_
      refine pw_getI 4 h d_X4_readStiffness_34 fd_RX4_29 (by assumption) rfl ?_
      refine pw_callV (As := [.int _]) h d_X4_readStiffness_37 mf_X4_fail mi_X4_fail ml_RX4_58 ⟨by decide, by decide, by decide⟩ (by assumption) rfl rfl (Nat.le_of_ble_eq_true rfl) trivial (c_X4_fail q0 _) ?_
      refine PKk.ret ?_
      refine pw_iret h hr d_X4_readStiffness_40 rfl (by decide) (by decide) ?_
      exact ⟨rfl, rfl, rfl, frD_t fD1 (frR_D fail_fr), Or.inr ⟨rfl, by unfold pF; rw [if_pos hd1.1, if_neg hb], by unfold pF; rw [if_pos hd1.1, if_neg hb, u2_s]; exact hn1⟩⟩
    · skip
      refine pw_iload_n h 0 d_X4_readStiffness_26 rfl ?_
      refine pw_bipush (x := 20) h d_X4_readStiffness_27 (by decide) ?_
      refine pw_icmp_le 41 h d_X4_readStiffness_29 (by decide) (fun c_29 => ?_) (fun c_29 => ?_)
      · skip
        have hb : 1 ≤ (numZ (I 12) T (skB (I 12) (a + 1) T)).2 ∧ (numZ (I 12) T (skB (I 12) (a + 1) T)).2 ≤ 20 := by have k1 := i_nlt c_23; have k2 := i_le c_29; rw [e1_14, hd1.2.1] at k1 k2; have z : (20 : Int32).toInt = 20 := rfl; have z2 : (1 : Int32).toInt = 1 := rfl; omega
        refine pw_aload_n h 1 d_X4_readStiffness_41 rfl ?_
        refine pw_getR (j := 14) 4 h d_X4_readStiffness_42 fd_RX4_12 (by assumption) rfl (by assumption) ?_
        refine pw_iload_n h 0 d_X4_readStiffness_45 rfl ?_
        refine pw_putI 2 h d_X4_readStiffness_46 fd_RX4_38 (by assumption) rfl rfl rfl rfl ?_
        refine pw_iconst (x := 1) h d_X4_readStiffness_49 (by decide) ?_
        refine pw_iret h hr d_X4_readStiffness_50 (by decide) (by decide) (by decide) ?_
        have hv : v1_14.toInt = ((numZ (I 12) T (skB (I 12) (a + 1) T)).2 : Int) := by rw [e1_14, hd1.2.1]; omega
        exact ⟨rfl, rfl, rfl, frD_t fD1 (fun b k c => u2_n1 (by omega)), Or.inl ⟨rfl, _, by unfold pF; rw [if_pos hd1.1, if_pos hb], by unfold pF; rw [if_pos hd1.1, if_pos hb]; exact rd_stiff (RdI_at hR0 fR1 hd1.2.2 hze1.2) hv hb.2⟩⟩
      · skip
        have hb : ¬ (1 ≤ (numZ (I 12) T (skB (I 12) (a + 1) T)).2 ∧ (numZ (I 12) T (skB (I 12) (a + 1) T)).2 ≤ 20) := by intro q; have := i_nle c_29; rw [e1_14, hd1.2.1] at this; have z : (20 : Int32).toInt = 20 := rfl; omega
        refine pw_aload_n h 1 d_X4_readStiffness_32 rfl ?_
        refine pw_aload_n h 1 d_X4_readStiffness_33 rfl ?_
        refine pw_getI 4 h d_X4_readStiffness_34 fd_RX4_29 (by assumption) rfl ?_
        refine pw_callV (As := [.int _]) h d_X4_readStiffness_37 mf_X4_fail mi_X4_fail ml_RX4_58 ⟨by decide, by decide, by decide⟩ (by assumption) rfl rfl (Nat.le_of_ble_eq_true rfl) trivial (c_X4_fail q0 _) ?_
        refine PKk.ret ?_
        refine pw_iret h hr d_X4_readStiffness_40 rfl (by decide) (by decide) ?_
        exact ⟨rfl, rfl, rfl, frD_t fD1 (frR_D fail_fr), Or.inr ⟨rfl, by unfold pF; rw [if_pos hd1.1, if_neg hb], by unfold pF; rw [if_pos hd1.1, if_neg hb, u2_s]; exact hn1⟩⟩
  · skip
    have hd1 : isDg (I 12) (skB (I 12) (a + 1) T) T = false ∧ I1 13 5 = nI (skB (I 12) (a + 1) T) := rn_no hx1 (by rw [← e1_14]; exact c_16)
    refine pw_iconst (x := 0) h d_X4_readStiffness_19 (by decide) ?_
    refine pw_iret h hr d_X4_readStiffness_20 rfl (by decide) (by decide) ?_
    exact ⟨rfl, rfl, rfl, fD1, Or.inr ⟨rfl, by unfold pF; rw [if_neg (by rw [hd1.1]; decide)], by unfold pF; rw [if_neg (by rw [hd1.1]; decide)]; exact hd1.2⟩⟩
