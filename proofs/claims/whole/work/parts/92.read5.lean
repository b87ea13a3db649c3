set_option maxHeartbeats 4000000 in
set_option maxRecDepth 100000 in
theorem c_X2_become {sh : Sh} {I : IM} {L : LM} {R : RM} {S : SL3} (hL1 : LineF sh R 1) (hL14 : LineF sh R 14) (hS : okI S) (hl : LinS I 14 S) : PMet M_X2_become [.ref 1, .ref 14] sh I L R (bcmP sh I L R S) := by
  refine PMet.of mf_X2_become (Nat.le_of_ble_eq_true rfl) ?_
  intro X h hr hml
  have hml : (xc X).maxLocals = 3 := hml
  have h : PXok X RX2 cX2_become 3 0 0 := h
  have hr : PXr X none "become" _ 0 0 := hr
  obtain ⟨f0, f1, f2, f3, f4, f5, g1, g2, g3, g4, g5⟩ := id hL1
  obtain ⟨y0, y1, y2, y3, y4, y5, z1, z2, z3, z4, z5⟩ := id hL14
  have h6 := hS.1
  show PW X 0 [(0, .ref 1), (1, .ref 14)] [] sh I L R 0 0
  refine pw_aload_n h 0 d_X2_become_0 rfl ?_
  refine pw_callV (As := []) h d_X2_become_1 mf_X2_clear mi_X2_clear ml_RX2_34 ⟨by decide, by decide, by decide⟩ (by assumption) rfl rfl (Nat.le_of_ble_eq_true rfl) trivial (c_X2_clear hL1) ?_
  intro ret1 sh1 I1 L1 R1 hp1
  obtain ⟨e0, e1, eI, eL, eR⟩ := hp1
  subst e0
  have e1 := e1.symm
  have eR := eR.symm
  subst e1
  subst eR
  refine ⟨rfl, ?_⟩
  have hb1 : bcI' I I1 0 S := by rw [eI]; exact bc_0
  have eL1 := eL.symm
  subst eL1
  clear eI eL
  refine pw_iconst (x := 0) h d_X2_become_4 (by decide) ?_
  refine pw_nmI (fun v2_5 e2_5 => ?_)
  refine pw_istore_n (lv' := [(2, .int v2_5), (0, .ref 1), (1, .ref 14)]) h d_X2_become_5 rfl _ hml (by decide) rfl ?_
  have cut_6 : ∀ (N i : Nat) (y : Int32) (I2 : IM), S.1 < i + N → i ≤ S.1 → y = nI i → bcI' I I2 i S → PW X 6 [(0, .ref 1), (1, .ref 14), (2, .int y)] [] sh I2 L R 0 0 := by
    intro N
    induction N with
    | zero => intros; omega
    | succ N ih =>
      intro i y I2 hN hi ei hb2
      refine pw_iload_n h 2 d_X2_become_6 rfl ?_
      refine pw_aload_n h 1 d_X2_become_7 rfl ?_
      refine pw_getI 2 h d_X2_become_8 fd_RX2_9 (by assumption) rfl ?_
      refine pw_icmp_ge 37 h d_X2_become_11 (by decide) (fun c_11 => ?_) (fun c_11 => ?_)
      · skip
        have hge : S.1 ≤ i := k_ge ei (by rw [hb2.2.2.2 _ _ (by decide)]; exact hl.1) (by omega) (by omega) c_11
        have e : i = S.1 := by omega
        rw [e] at hb2
        refine pw_iconst (x := 0) h d_X2_become_37 (by decide) ?_
        refine pw_nmI (fun v2_38 e2_38 => ?_)
        refine pw_istore_n (lv' := [(2, .int v2_38), (0, .ref 1), (1, .ref 14)]) h d_X2_become_38 rfl _ hml (by decide) rfl ?_
        have cut_39 : ∀ (N p : Nat) (y2 : Int32), 13 < p + N → p ≤ 13 → y2 = nI p → PW X 39 [(0, .ref 1), (1, .ref 14), (2, .int y2)] [] sh (bwI I I2 p) L R 0 0 := by
          intro N
          induction N with
          | zero => intros; omega
          | succ N ihp =>
            intro p y2 hN13 hp13 ep
            refine pw_iload_n h 2 d_X2_become_39 rfl ?_
            refine pw_bipush (x := 13) h d_X2_become_40 (by decide) ?_
            refine pw_icmp_ge 63 h d_X2_become_42 (by decide) (fun c_42 => ?_) (fun c_42 => ?_)
            · skip
              have hge := k_ge ep (n := 13) rfl (by omega) (by omega) c_42
              have e13 : p = 13 := by omega
              subst e13
              have e146 : bwI I I2 13 14 6 = I 14 6 := by rw [bwI_o (by decide), hb2.2.2.2 _ _ (by decide)]
              refine pw_aload_n h 1 d_X2_become_63 rfl ?_
              refine pw_getI 2 h d_X2_become_64 fd_RX2_31 (by assumption) rfl ?_
              refine pw_if_le 78 h d_X2_become_67 (by decide) (fun c_67 => ?_) (fun c_67 => ?_)
              · skip
                have hs : ¬ 0 < I 14 6 := by rw [e146] at c_67; exact nlt_of_ge c_67
                refine pw_vret h hr d_X2_become_78 (by decide) (by decide) ?_
                first | exact bc_end hb2 hs | exact bc_end2 hb2 hs e146
              · skip
                have hs : 0 < I 14 6 := by rw [e146] at c_67; exact lt_of_nge c_67
                refine pw_aload_n h 0 d_X2_become_70 rfl ?_
                refine pw_aload_n h 1 d_X2_become_71 rfl ?_
                refine pw_getI 2 h d_X2_become_72 fd_RX2_31 (by assumption) rfl ?_
                refine pw_putI 2 h d_X2_become_75 fd_RX2_31 (by assumption) rfl rfl rfl rfl ?_
                refine pw_vret h hr d_X2_become_78 (by decide) (by decide) ?_
                first | exact bc_end hb2 hs | exact bc_end2 hb2 hs e146
            · skip
              have hlt := k_lt ep (n := 13) rfl (by omega) (by omega) c_42
              have hxp := k_ix ep hlt (by decide)
              refine pw_aload_n h 0 d_X2_become_45 rfl ?_
              refine pw_getR (j := 6) 2 h d_X2_become_46 fd_RX2_28 (by assumption) rfl (by assumption) ?_
              refine pw_iload_n h 2 d_X2_become_49 rfl ?_
              refine pw_aload_n h 1 d_X2_become_50 rfl ?_
              refine pw_getR (j := 19) 2 h d_X2_become_51 fd_RX2_28 (by assumption) rfl (by assumption) ?_
              refine pw_iload_n h 2 d_X2_become_54 rfl ?_
              refine pw_iald h d_X2_become_55 (by assumption) (by assumption) ?_
              refine pw_iast h d_X2_become_56 (by assumption) (by assumption) ?_
              obtain ⟨v2_57, e2_57⟩ : ∃ z : Int32, z = y2 + (1) := ⟨_, rfl⟩
              refine pw_iinc (lv' := [(2, .int v2_57), (0, .ref 1), (1, .ref 14)]) v2_57 h d_X2_become_57 2 rfl e2_57.symm _ hml (by decide) rfl ?_
              refine pw_goto 39 h d_X2_become_60 (by decide) ?_
              refine PW.perm [1, 2, 0] rfl ?_
              refine pw_mem ?_ rfl rfl (ihp (p + 1) v2_57 (by omega) (by omega) (k_up e2_57 ep))
              exact bwI_s (by rw [bwI_o (by decide), hb2.2.2.2 _ _ (by decide)])
        refine PW.perm [1, 2, 0] rfl ?_
        refine pw_mem bwI_0 rfl rfl (cut_39 14 0 v2_38 (by omega) (by omega) e2_38)
      · skip
        have hlt : i < S.1 := k_lt ei (by rw [hb2.2.2.2 _ _ (by decide)]; exact hl.1) (by omega) (by omega) c_11
        have hx6 := k_ix ei (show i < 6 by omega) (by decide)
        refine pw_aload_n h 0 d_X2_become_14 rfl ?_
        refine pw_aload_n h 1 d_X2_become_15 rfl ?_
        refine pw_getR (j := 15) 2 h d_X2_become_16 fd_RX2_15 (by assumption) rfl (by assumption) ?_
        refine pw_iload_n h 2 d_X2_become_19 rfl ?_
        refine pw_iald h d_X2_become_20 (by assumption) (by assumption) ?_
        refine pw_aload_n h 1 d_X2_become_21 rfl ?_
        refine pw_getR (j := 16) 2 h d_X2_become_22 fd_RX2_19 (by assumption) rfl (by assumption) ?_
        refine pw_iload_n h 2 d_X2_become_25 rfl ?_
        refine pw_iald h d_X2_become_26 (by assumption) (by assumption) ?_
        refine pw_callV (As := [.int _, .int _]) h d_X2_become_27 mf_X2_insert mi_X2_insert ml_RX2_37 ⟨by decide, by decide, by decide⟩ (by assumption) rfl rfl (Nat.le_of_ble_eq_true rfl) trivial (c_X2_insert hL1 (n := i) hb2.1.1 (by omega) (by omega) _ _) ?_
        intro ret3 sh3 I3 L3 R3 hp3
        obtain ⟨e0, e1, eI, eL, eR⟩ := hp3
        subst e0
        have e1 := e1.symm
        have eR := eR.symm
        have eL := eL.symm
        subst e1
        subst eR
        subst eL
        refine ⟨rfl, ?_⟩
        have hb3 : bcI' I I3 (i + 1) S := by rw [eI]; exact bc_s hb2 hS hlt (by rw [hb2.2.2.2 _ _ (by decide)]; exact hl.2.1 i hlt) (by rw [hb2.2.2.2 _ _ (by decide)]; exact hl.2.2 i hlt)
        clear eI
        refine pw_popI h d_X2_become_30 ?_
        obtain ⟨v2_31, e2_31⟩ : ∃ z : Int32, z = y + (1) := ⟨_, rfl⟩
        refine pw_iinc (lv' := [(2, .int v2_31), (0, .ref 1), (1, .ref 14)]) v2_31 h d_X2_become_31 2 rfl e2_31.symm _ hml (by decide) rfl ?_
        refine pw_goto 6 h d_X2_become_34 (by decide) ?_
        refine PW.perm [1, 2, 0] rfl ?_
        exact ih (i + 1) v2_31 _ (by omega) (by omega) (k_up e2_31 ei) hb3
  refine PW.perm [1, 2, 0] rfl ?_
  exact cut_6 (S.1 + 1) 0 v2_5 _ (by omega) (by omega) e2_5 hb1

set_option maxHeartbeats 4000000 in
set_option maxRecDepth 100000 in
theorem c_X7_read {sh : Sh} {I : IM} {L : LM} {R : RM} (hCl : ClsF sh R) (hRf : RdrF sh R) {T : Nat} (hT : I 0 3 = nI T) (hT2 : T ≤ 120) : PMet M_X7_read [.ref 0] sh I L R (reaP sh I L R T) := by
  refine PMet.of mf_X7_read (Nat.le_of_ble_eq_true rfl) ?_
  intro X h hr hml
  have hml : (xc X).maxLocals = 2 := hml
  have h : PXok X RX7 cX7_read 7 0 0 := h
  have hr : PXr X (some .int) "read" _ 0 0 := hr
  have hk13 := hRf.1
  obtain ⟨hC, hB21, hB33, hQ, hPl⟩ := id hCl
  have hC0 := hC
  obtain ⟨k0, r0, r1, r2, r4, r5, r6, r7, r8, r13, r15, r16, hL, k7, r7s, k8s, k12, k20, r20s, hSs, k71, k72⟩ := hC
  have hL0 := hL
  obtain ⟨f0, f1, f2, f3, f4, f5, g1, g2, g3, g4, g5⟩ := hL
  show PW X 0 [(0, .ref 0)] [] sh I L R 0 0
  refine pw_aload_n h 0 d_X7_read_0 rfl ?_
  refine pw_getR (j := 13) 7 h d_X7_read_1 fd_RX7_32 (by assumption) rfl (by assumption) ?_
  refine pw_aload_n h 0 d_X7_read_4 rfl ?_
  refine pw_getR (j := 12) 7 h d_X7_read_5 fd_RX7_21 (by assumption) rfl (by assumption) ?_
  refine pw_aload_n h 0 d_X7_read_8 rfl ?_
  refine pw_getI 7 h d_X7_read_9 fd_RX7_25 (by assumption) rfl ?_
  refine pw_callV (As := [.ref 12, .int _]) h d_X7_read_12 mf_X4_faultOf mi_X4_faultOf ml_RX7_155 ⟨by decide, by decide, by decide⟩ (by assumption) rfl rfl (Nat.le_of_ble_eq_true rfl) trivial (c_X4_faultOf hRf hT hT2) ?_
  intro ret1 sh1 I1 L1 R1 hp1
  obtain ⟨e1, eR, eL, fD1, hres⟩ := hp1
  have e1 := e1.symm
  have eL := eL.symm
  subst e1
  subst eR
  subst eL
  refine ⟨rfl, ?_⟩
  have hCl1 := ClsF_t hCl
  have hR13 : u2 R 13 1 (some 12) 13 0 = some 14 := by rw [u2_n2 (by decide)]; exact hRf.2.1
  have hL14 : LineF sh (u2 R 13 1 (some 12)) 14 := LineF_R hRf.2.2.1 (fun k => u2_n1 (by decide))
  have hk13 := hRf.1
  obtain ⟨R9, eR9⟩ : ∃ R9, R9 = u2 R 13 1 (some 12) := ⟨_, rfl⟩
  refine pw_mem rfl rfl (R' := R9) eR9.symm ?_
  rw [← eR9] at hCl1 hR13 hL14
  obtain ⟨hC, hB21, hB33, hQ, hPl⟩ := id hCl1
  have hC0 := hC
  obtain ⟨k0, r0, r1, r2, r4, r5, r6, r7, r8, r13, r15, r16, hL, k7, r7s, k8s, k12, k20, r20s, hSs, k71, k72⟩ := hC
  have hL0 := hL
  obtain ⟨f0, f1, f2, f3, f4, f5, g1, g2, g3, g4, g5⟩ := hL
  obtain ⟨fx, hfx, hfa, hfb⟩ := flt_x hres
  subst hfx
  refine pw_nmI (fun v1_15 e1_15 => ?_)
  refine pw_istore_n (lv' := [(1, .int v1_15), (0, .ref 0)]) h d_X7_read_15 rfl _ hml (by decide) rfl ?_
  refine pw_aload_n h 1 d_X7_read_16 rfl ?_
  refine pw_iconst (x := 0) h d_X7_read_17 (by decide) ?_
  refine pw_putI 7 h d_X7_read_18 fd_RX7_25 (by assumption) rfl rfl rfl rfl ?_
  refine pw_iload_n h 0 d_X7_read_21 rfl ?_
  refine pw_if_lt 30 h d_X7_read_22 (by decide) (fun c_22 => ?_) (fun c_22 => ?_)
  · skip
    obtain ⟨e, D', hpt, hok, hdr⟩ := hfa (by rw [← e1_15]; exact c_22)
    refine pw_aload_n h 1 d_X7_read_30 rfl ?_
    refine pw_callV (As := []) h d_X7_read_31 mf_X7_forgetAnswers mi_X7_forgetAnswers ml_RX7_108 ⟨by decide, by decide, by decide⟩ (by assumption) rfl rfl (Nat.le_of_ble_eq_true rfl) trivial (c_X7_forgetAnswers hC0) ?_
    refine PKk.ret ?_
    obtain ⟨I2, eI2⟩ : ∃ I2, I2 = forgI (u2 I1 0 3 0) := ⟨_, rfl⟩
    refine pw_mem (I' := I2) eI2.symm rfl rfl ?_
    have o2 : ∀ a k, (a ≠ 0 ∨ (k ≠ 3 ∧ k ≠ 9 ∧ k ≠ 14)) → I2 a k = I1 a k := fun a k c => by rw [eI2]; unfold forgI u2; rw [if_neg (by omega), if_neg (by omega), if_neg (by omega)]
    have o29 : I2 0 9 = -1 := by rw [eI2]; unfold forgI; rw [u2_n2 (by decide), u2_s]
    have o214 : I2 0 14 = 0 := by rw [eI2]; exact u2_s
    have o23 : I2 0 3 = 0 := by rw [eI2]; unfold forgI; rw [u2_n2 (by decide), u2_n2 (by decide), u2_s]
    have hl2 : LinS I2 14 (foldI D'.1) := ⟨by rw [o2 _ _ (Or.inl (by decide))]; exact hdr.1, fun k hk => by rw [o2 _ _ (Or.inl (by decide))]; exact hdr.2.1 k hk, fun k hk => by rw [o2 _ _ (Or.inl (by decide))]; exact hdr.2.2.1 k hk⟩
    refine pw_aload_n h 1 d_X7_read_34 rfl ?_
    refine pw_getR (j := 1) 7 h d_X7_read_35 fd_RX7_12 (by assumption) rfl (by assumption) ?_
    refine pw_aload_n h 1 d_X7_read_38 rfl ?_
    refine pw_getR (j := 13) 7 h d_X7_read_39 fd_RX7_32 (by assumption) rfl (by assumption) ?_
    refine pw_getR (j := 14) 4 h d_X7_read_42 fd_RX7_158 (by assumption) rfl (by assumption) ?_
    refine pw_callV (As := [.ref 14]) h d_X7_read_45 mf_X2_become mi_X2_become ml_RX7_161 ⟨by decide, by decide, by decide⟩ (by assumption) rfl rfl (Nat.le_of_ble_eq_true rfl) trivial (c_X2_become hL0 hL14 hok.1 hl2) ?_
    intro ret3 sh3 I3 L3 R3 hp3
    obtain ⟨e0, e1, eR, eL, h31, h32, h33, h34, h35⟩ := hp3
    subst e0
    have e1 := e1.symm
    have eR := eR.symm
    have eL := eL.symm
    subst e1
    subst eR
    subst eL
    refine ⟨rfl, ?_⟩
    refine pw_aload_n h 1 d_X7_read_48 rfl ?_
    refine pw_getR (j := 1) 7 h d_X7_read_49 fd_RX7_12 (by assumption) rfl (by assumption) ?_
    refine pw_getI 2 h d_X7_read_52 fd_RX7_105 (by assumption) rfl ?_
    refine pw_iret h hr d_X7_read_55 rfl (by decide) (by decide) ?_
    exact rea_end fD1 hpt hok hdr o2 o29 o214 o23 h31 h32 h33 h34 h35 eR9
  · skip
    obtain ⟨e, hpt, hfe⟩ := hfb (by rw [← e1_15]; exact c_22)
    refine pw_bipush (x := (-20)) h d_X7_read_25 (by decide) ?_
    refine pw_iload_n h 0 d_X7_read_27 rfl ?_
    refine pw_isub h d_X7_read_28 ?_
    refine pw_iret h hr d_X7_read_29 rfl (by decide) (by decide) ?_
    refine ⟨rfl, eR9, rfl, u2_s, fun a k c => ?_, Or.inr ⟨e, hpt, by rw [e1_15, hfe], fun a k c d => ?_⟩⟩
    · unfold u2; rw [if_neg (by omega)]; exact fD1 a k (by omega)
    · unfold u2; rw [if_neg (by omega)]; exact fD1 a k c
