set_option maxHeartbeats 4000000 in
set_option maxRecDepth 100000 in
theorem c_X8_next {sh : Sh} {I : IM} {L : LM} {R : RM} {m T a : Nat} (hM : ModF sh R m) (hT : I m 9 = nI T) (ha : I m 10 = nI a) (hT2 : T ≤ 120) (haT : a ≤ T) : PMet M_X8_next [.ref m] sh I L R (pRet (some (.int (nx0 (I (m + 7)) (skB (I (m + 7)) a T) T))) sh (u2 I m 10 (nI (skB (I (m + 7)) a T))) L R) := by
  refine PMet.of mf_X8_next (Nat.le_of_ble_eq_true rfl) ?_
  intro X h hr hml
  have hml : (xc X).maxLocals = 1 := hml
  have h : PXok X RX8 cX8_next 1 0 0 := h
  have hr : PXr X (some .int) "next" _ 0 0 := hr
  have hM0 := hM
  obtain ⟨f0, f1, f2, f3, f4, f5, f6, f7, f8, f9, f10, f11, f12, f13, f14, f15, f16, f17, f18, f19, f20, f21, f22, f23, f24, f25, f26, f27, g1, g2, g3, g4, g5, g6, g7, g8, g9, g10, g11, g12, g13, g14, g15, g16, g17, g18, g19, g20, g21, g22, g23, g24, g25, g26, g27⟩ := hM
  show PW X 0 [(0, .ref m)] [] sh I L R 0 0
  have cut_0 : ∀ (N c : Nat), T < c + N → c ≤ T → skB (I (m + 7)) c T = skB (I (m + 7)) a T → PW X 0 [(0, .ref m)] [] sh (u2 I m 10 (nI c)) L R 0 0 := by
    intro N
    induction N with
    | zero => intros; omega
    | succ N ih =>
      intro c hN hc hq
      have hx : c < T → px_ix (u2 I m 10 (nI c) m 10) 120 c := fun q => k_ix u2_s (by omega) (by decide)
      have hT1 : u2 I m 10 (nI c) m 9 = nI T := by rw [u2_n2 (by decide)]; exact hT
      refine pw_aload_n h 0 d_X8_next_0 rfl ?_
      refine pw_getI 8 h d_X8_next_1 fd_RX8_163 (by assumption) rfl ?_
      refine pw_aload_n h 0 d_X8_next_4 rfl ?_
      refine pw_getI 8 h d_X8_next_5 fd_RX8_160 (by assumption) rfl ?_
      refine pw_icmp_ge 38 h d_X8_next_8 (by decide) (fun c_8 => ?_) (fun c_8 => ?_)
      · skip
        have hge : T ≤ c := k_ge (i := c) (n := T) u2_s hT1 (by omega) (by omega) c_8
        have hs : skB (I (m + 7)) c T = c := skB_st (fun q => absurd q.1 (by omega))
        refine pw_aload_n h 0 d_X8_next_38 rfl ?_
        refine pw_getI 8 h d_X8_next_39 fd_RX8_163 (by assumption) rfl ?_
        refine pw_aload_n h 0 d_X8_next_42 rfl ?_
        refine pw_getI 8 h d_X8_next_43 fd_RX8_160 (by assumption) rfl ?_
        refine pw_icmp_ge 61 h d_X8_next_46 (by decide) (fun c_46 => ?_) (fun c_46 => ?_)
        · skip
          have hge : T ≤ c := k_ge (i := c) (n := T) u2_s hT1 (by omega) (by omega) c_46
          refine pw_iconst (x := 0) h d_X8_next_61 (by decide) ?_
          refine pw_iret h hr d_X8_next_62 rfl (by decide) (by decide) ?_
          rw [← hq, hs]
          unfold nx0
          first | (rw [if_pos hlt, u2_n1 (by omega)]; exact pRet_self) | (rw [if_neg (Nat.not_lt.mpr hge)]; exact pRet_self)
        · skip
          have hlt : c < T := k_lt (i := c) (n := T) u2_s hT1 (by omega) (by omega) c_46
          have hxc := hx hlt
          refine pw_aload_n h 0 d_X8_next_49 rfl ?_
          refine pw_getR (j := (m + 7)) 8 h d_X8_next_50 fd_RX8_32 (by assumption) rfl (by assumption) ?_
          refine pw_aload_n h 0 d_X8_next_53 rfl ?_
          refine pw_getI 8 h d_X8_next_54 fd_RX8_163 (by assumption) rfl ?_
          refine pw_iald h d_X8_next_57 (by assumption) (by assumption) ?_
          refine pw_goto 62 h d_X8_next_58 (by decide) ?_
          refine pw_iret h hr d_X8_next_62 rfl (by decide) (by decide) ?_
          rw [← hq, hs]
          unfold nx0
          first | (rw [if_pos hlt, u2_n1 (by omega)]; exact pRet_self) | (rw [if_neg (Nat.not_lt.mpr hge)]; exact pRet_self)
      · skip
        have hlt : c < T := k_lt (i := c) (n := T) u2_s hT1 (by omega) (by omega) c_8
        have hxc := hx hlt
        refine pw_aload_n h 0 d_X8_next_11 rfl ?_
        refine pw_getR (j := (m + 7)) 8 h d_X8_next_12 fd_RX8_32 (by assumption) rfl (by assumption) ?_
        refine pw_aload_n h 0 d_X8_next_15 rfl ?_
        refine pw_getI 8 h d_X8_next_16 fd_RX8_163 (by assumption) rfl ?_
        refine pw_iald h d_X8_next_19 (by assumption) (by assumption) ?_
        refine pw_bipush (x := 32) h d_X8_next_20 (by decide) ?_
        refine pw_icmp_ne 38 h d_X8_next_22 (by decide) (fun c_22 => ?_) (fun c_22 => ?_)
        · skip
          have hs : skB (I (m + 7)) c T = c := skB_st (fun q => c_22 (by rw [u2_n1 (by omega)]; exact q.2))
          refine pw_aload_n h 0 d_X8_next_38 rfl ?_
          refine pw_getI 8 h d_X8_next_39 fd_RX8_163 (by assumption) rfl ?_
          refine pw_aload_n h 0 d_X8_next_42 rfl ?_
          refine pw_getI 8 h d_X8_next_43 fd_RX8_160 (by assumption) rfl ?_
          refine pw_icmp_ge 61 h d_X8_next_46 (by decide) (fun c_46 => ?_) (fun c_46 => ?_)
          · skip
            have hge : T ≤ c := k_ge (i := c) (n := T) u2_s hT1 (by omega) (by omega) c_46
            refine pw_iconst (x := 0) h d_X8_next_61 (by decide) ?_
            refine pw_iret h hr d_X8_next_62 rfl (by decide) (by decide) ?_
            rw [← hq, hs]
            unfold nx0
            first | (rw [if_pos hlt, u2_n1 (by omega)]; exact pRet_self) | (rw [if_neg (Nat.not_lt.mpr hge)]; exact pRet_self)
          · skip
            have hlt : c < T := k_lt (i := c) (n := T) u2_s hT1 (by omega) (by omega) c_46
            have hxc := hx hlt
            refine pw_aload_n h 0 d_X8_next_49 rfl ?_
            refine pw_getR (j := (m + 7)) 8 h d_X8_next_50 fd_RX8_32 (by assumption) rfl (by assumption) ?_
            refine pw_aload_n h 0 d_X8_next_53 rfl ?_
            refine pw_getI 8 h d_X8_next_54 fd_RX8_163 (by assumption) rfl ?_
            refine pw_iald h d_X8_next_57 (by assumption) (by assumption) ?_
            refine pw_goto 62 h d_X8_next_58 (by decide) ?_
            refine pw_iret h hr d_X8_next_62 rfl (by decide) (by decide) ?_
            rw [← hq, hs]
            unfold nx0
            first | (rw [if_pos hlt, u2_n1 (by omega)]; exact pRet_self) | (rw [if_neg (Nat.not_lt.mpr hge)]; exact pRet_self)
        · skip
          have h32 : I (m + 7) c = 32 := by rw [u2_n1 (by omega)] at c_22; exact c_22
          refine pw_aload_n h 0 d_X8_next_25 rfl ?_
          refine pw_dupR h d_X8_next_26 ?_
          refine pw_getI 8 h d_X8_next_27 fd_RX8_163 (by assumption) rfl ?_
          refine pw_iconst (x := 1) h d_X8_next_30 (by decide) ?_
          refine pw_iadd h d_X8_next_31 ?_
          refine pw_putI 8 h d_X8_next_32 fd_RX8_163 (by assumption) rfl rfl rfl rfl ?_
          refine pw_goto 0 h d_X8_next_35 (by decide) ?_
          refine PW.perm [0] rfl ?_
          refine pw_mem ?_ rfl rfl (ih (c + 1) (by omega) (by omega) (by rw [← hq, skB_go hlt h32]))
          rw [u2_u2, u2_s, nI_1]
  refine PW.perm [0] rfl ?_
  exact pw_mem (u2_self ha) rfl rfl (cut_0 (T + 1) a (by omega) haT rfl)

set_option maxHeartbeats 4000000 in
set_option maxRecDepth 100000 in
theorem c_X8_number {sh : Sh} {I : IM} {L : LM} {R : RM} {m T a : Nat} (hM : ModF sh R m) (hT : I m 9 = nI T) (ha : I m 10 = nI a) (hT2 : T ≤ 120) (haT : a ≤ T) {wr : Bool} (hw : I m 11 = bI wr) {lo hi : Nat} {a1 b1 : Int32} (hlo : a1.toInt = (lo : Int)) (hhi : b1.toInt = (hi : Int)) (hh : hi ≤ 9999) : PMet M_X8_number [.ref m, .int a1, .int b1] sh I L R (numP sh I L R m T a lo hi a1 wr) := by
  refine PMet.of mf_X8_number (Nat.le_of_ble_eq_true rfl) ?_
  intro X h hr hml
  have hml : (xc X).maxLocals = 5 := hml
  have h : PXok X RX8 cX8_number 2 0 0 := h
  have hr : PXr X (some .int) "number" _ 0 0 := hr
  have hM0 := hM
  obtain ⟨f0, f1, f2, f3, f4, f5, f6, f7, f8, f9, f10, f11, f12, f13, f14, f15, f16, f17, f18, f19, f20, f21, f22, f23, f24, f25, f26, f27, g1, g2, g3, g4, g5, g6, g7, g8, g9, g10, g11, g12, g13, g14, g15, g16, g17, g18, g19, g20, g21, g22, g23, g24, g25, g26, g27⟩ := hM
  have hsk := skB_le (f := I (m + 7)) haT
  show PW X 0 [(0, .ref m), (1, .int a1), (2, .int b1)] [] sh I L R 0 0
  refine pw_aload_n h 0 d_X8_number_0 rfl ?_
  refine pw_getI 8 h d_X8_number_1 fd_RX8_166 (by assumption) rfl ?_
  refine pw_if_ne 24 h d_X8_number_4 (by decide) (fun c_4 => ?_) (fun c_4 => ?_)
  · skip
    have hwr : wr = true := by cases wr with | false => exact absurd hw c_4 | true => rfl
    refine pw_aload_n h 0 d_X8_number_24 rfl ?_
    refine pw_iconst (x := 1) h d_X8_number_25 (by decide) ?_
    refine pw_putI 8 h d_X8_number_26 fd_RX8_166 (by assumption) rfl rfl rfl rfl ?_
    refine pw_iconst (x := 0) h d_X8_number_29 (by decide) ?_
    refine pw_iret h hr d_X8_number_30 rfl (by decide) (by decide) ?_
    first
      | exact num_bad (frN_u (Or.inr rfl)) (fun q => absurd (hwr.symm.trans q) (by decide)) (fun _ => u2_n2 (by decide)) u2_s
      | exact num_bad (frN_t fN1 (frN_u (Or.inr rfl))) (fun _ => ⟨fun q => absurd (q.1.symm.trans c_21) (by decide), by rw [u2_n2 (by decide)]; exact a1_⟩) (fun q => absurd (hwr.symm.trans q) (by decide)) u2_s
  · skip
    have hwr : wr = false := by cases wr with | false => rfl | true => rw [hw] at c_4; exact absurd c_4 (by decide)
    refine pw_aload_n h 0 d_X8_number_7 rfl ?_
    refine pw_callV (As := []) h d_X8_number_8 mf_X8_next mi_X8_next ml_RX8_170 ⟨by decide, by decide, by decide⟩ (by assumption) rfl rfl (Nat.le_of_ble_eq_true rfl) trivial (c_X8_next hM0 hT ha hT2 haT) ?_
    intro ret1 sh1 I1 L1 R1 hp1
    obtain ⟨e0, e1, eI, eL, eR⟩ := hp1
    subst e0
    have e1 := e1.symm
    have eR := eR.symm
    have eL := eL.symm
    subst e1
    subst eR
    subst eL
    refine ⟨rfl, ?_⟩
    have fN1 : frN m I I1 := by rw [eI]; exact frN_u (Or.inl rfl)
    have a1_ : I1 m 10 = nI (skB (I (m + 7)) a T) := by rw [eI]; exact u2_s
    have w1 : I1 m 11 = 0 := by rw [eI, u2_n2 (by decide)]; exact c_4
    have T1 : I1 m 9 = nI T := by rw [eI, u2_n2 (by decide)]; exact hT
    have x1 : I1 (m + 7) = I (m + 7) := frN_f fN1 (by decide)
    clear eI
    refine pw_i2l h d_X8_number_11 ?_
    refine pw_ldc2 h d_X8_number_12 ck_RX8_174 ?_
    refine pw_ldc2 h d_X8_number_15 ck_RX8_176 ?_
    refine pw_callS (As := [.long _, .long _, .long _]) h d_X8_number_18 mf_X8_in st_yX8_in ml_RX8_105 ⟨by decide, by decide, by decide⟩ rfl rfl (Nat.le_of_ble_eq_true rfl) (c_X8_inW (a := 48) (b := 57) rfl rfl) ?_
    refine PKk.ret ?_
    refine pw_if_ne 31 h d_X8_number_21 (by decide) (fun c_21 => ?_) (fun c_21 => ?_)
    · skip
      rw [bI_1, Bool.not_eq_false] at c_21
      rw [nx0_dg] at c_21
      refine pw_aload_n h 0 d_X8_number_31 rfl ?_
      refine pw_getI 8 h d_X8_number_32 fd_RX8_163 (by assumption) rfl ?_
      refine pw_nmI (fun v3_35 e3_35 => ?_)
      refine pw_istore_n (lv' := [(3, .int v3_35), (0, .ref m), (1, .int a1), (2, .int b1)]) h d_X8_number_35 rfl _ hml (by decide) rfl ?_
      have efi : v3_35 = nI (skB (I (m + 7)) a T) := e3_35.trans a1_
      refine pw_iconst (x := 0) h d_X8_number_36 (by decide) ?_
      refine pw_nmI (fun v4_37 e4_37 => ?_)
      refine pw_istore (lv' := [(4, .int v4_37), (3, .int v3_35), (0, .ref m), (1, .int a1), (2, .int b1)]) h d_X8_number_37 _ hml (by decide) rfl ?_
      have cut_39 : ∀ (N c V : Nat) (fi v : Int32) (I2 : IM), T < c + N → c ≤ T → fi = nI (skB (I (m + 7)) a T) → capR v V → nzA (I (m + 7)) T c V = numZ (I (m + 7)) T (skB (I (m + 7)) a T) → frN m I I2 → I2 m 10 = nI c → I2 m 11 = 0 → PW X 39 [(0, .ref m), (1, .int a1), (2, .int b1), (3, .int fi), (4, .int v)] [] sh I2 L R 0 0 := by
        intro N
        induction N with
        | zero => intros; omega
        | succ N ih =>
          intro c V fi v I2 hN hc efi hv hq f2 a2 w2
          have T2 : I2 m 9 = nI T := by rw [f2 m 9 (Or.inr (by decide))]; exact hT
          have x2 : I2 (m + 7) = I (m + 7) := frN_f f2 (by decide)
          refine pw_aload_n h 0 d_X8_number_39 rfl ?_
          refine pw_getI 8 h d_X8_number_40 fd_RX8_163 (by assumption) rfl ?_
          refine pw_aload_n h 0 d_X8_number_43 rfl ?_
          refine pw_getI 8 h d_X8_number_44 fd_RX8_160 (by assumption) rfl ?_
          refine pw_icmp_ge 118 h d_X8_number_47 (by decide) (fun c_47 => ?_) (fun c_47 => ?_)
          · skip
            have hst : nzA (I (m + 7)) T c V = (c, V) := nzA_st (fun q => absurd (k_ge a2 T2 (by omega) (by omega) c_47) (by omega))
            have hZ : numZ (I (m + 7)) T (skB (I (m + 7)) a T) = (c, V) := hq.symm.trans hst
            have hin := capR_in hv hlo hhi hh
            refine pw_aload_n h 0 d_X8_number_118 rfl ?_
            refine pw_iload h 4 d_X8_number_119 rfl ?_
            refine pw_i2l h d_X8_number_121 ?_
            refine pw_iload_n h 1 d_X8_number_122 rfl ?_
            refine pw_i2l h d_X8_number_123 ?_
            refine pw_iload_n h 2 d_X8_number_124 rfl ?_
            refine pw_i2l h d_X8_number_125 ?_
            refine pw_callS (As := [.long _, .long _, .long _]) h d_X8_number_126 mf_X8_in st_yX8_in ml_RX8_105 ⟨by decide, by decide, by decide⟩ rfl rfl (Nat.le_of_ble_eq_true rfl) (c_X8_inW (a := a1) (b := b1) (Int32.toInt_toInt64 a1) (Int32.toInt_toInt64 b1)) ?_
            refine PKk.ret ?_
            refine pw_if_ne 136 h d_X8_number_129 (by decide) (fun c_129 => ?_) (fun c_129 => ?_)
            · skip
              rw [bI_1, Bool.not_eq_false] at c_129
              refine pw_iconst (x := 0) h d_X8_number_136 (by decide) ?_
              refine pw_putI 8 h d_X8_number_137 fd_RX8_166 (by assumption) rfl rfl rfl (by first | exact Or.inl rfl | exact Or.inr rfl | rfl | decide) ?_
              refine pw_aload_n h 0 d_X8_number_140 rfl ?_
              refine pw_aload_n h 0 d_X8_number_141 rfl ?_
              refine pw_getI 8 h d_X8_number_142 fd_RX8_166 (by assumption) rfl ?_
              refine pw_if_eq 152 h d_X8_number_145 (by decide) (fun c_145 => ?_) (fun c_145 => ?_)
              · skip
                refine pw_aload_n h 0 d_X8_number_152 rfl ?_
                refine pw_getI 8 h d_X8_number_153 fd_RX8_163 (by assumption) rfl ?_
                refine pw_putI 8 h d_X8_number_156 fd_RX8_163 (by assumption) rfl rfl rfl rfl ?_
                refine pw_aload_n h 0 d_X8_number_159 rfl ?_
                refine pw_getI 8 h d_X8_number_160 fd_RX8_166 (by assumption) rfl ?_
                refine pw_if_eq 170 h d_X8_number_163 (by decide) (fun c_163 => ?_) (fun c_163 => ?_)
                · skip
                  refine pw_iload h 4 d_X8_number_170 rfl ?_
                  refine pw_iret h hr d_X8_number_172 rfl (by decide) (by decide) ?_
                  first
                    | exact absurd u2_s c_145
                    | exact absurd (u2_s.symm.trans c_145) (by decide)
                    | exact absurd ((u2_n2 (by decide)).trans u2_s) c_163
                    | exact absurd (((u2_n2 (by decide)).trans u2_s).symm.trans c_163) (by decide)
                    | exact num_ok f2 hwr c_21 hZ a2 hin c_129 rfl
                    | exact num_no f2 hwr hZ hin c_129 efi rfl
                · skip
                  refine pw_iload_n h 1 d_X8_number_166 rfl ?_
                  refine pw_goto 172 h d_X8_number_167 (by decide) ?_
                  refine pw_iret h hr d_X8_number_172 rfl (by decide) (by decide) ?_
                  first
                    | exact absurd u2_s c_145
                    | exact absurd (u2_s.symm.trans c_145) (by decide)
                    | exact absurd ((u2_n2 (by decide)).trans u2_s) c_163
                    | exact absurd (((u2_n2 (by decide)).trans u2_s).symm.trans c_163) (by decide)
                    | exact num_ok f2 hwr c_21 hZ a2 hin c_129 rfl
                    | exact num_no f2 hwr hZ hin c_129 efi rfl
              · skip
                refine pw_iload_n h 3 d_X8_number_148 rfl ?_
                refine pw_goto 156 h d_X8_number_149 (by decide) ?_
                refine pw_putI 8 h d_X8_number_156 fd_RX8_163 (by assumption) rfl rfl rfl rfl ?_
                refine pw_aload_n h 0 d_X8_number_159 rfl ?_
                refine pw_getI 8 h d_X8_number_160 fd_RX8_166 (by assumption) rfl ?_
                refine pw_if_eq 170 h d_X8_number_163 (by decide) (fun c_163 => ?_) (fun c_163 => ?_)
                · skip
                  refine pw_iload h 4 d_X8_number_170 rfl ?_
                  refine pw_iret h hr d_X8_number_172 rfl (by decide) (by decide) ?_
                  first
                    | exact absurd u2_s c_145
                    | exact absurd (u2_s.symm.trans c_145) (by decide)
                    | exact absurd ((u2_n2 (by decide)).trans u2_s) c_163
                    | exact absurd (((u2_n2 (by decide)).trans u2_s).symm.trans c_163) (by decide)
                    | exact num_ok f2 hwr c_21 hZ a2 hin c_129 rfl
                    | exact num_no f2 hwr hZ hin c_129 efi rfl
                · skip
                  refine pw_iload_n h 1 d_X8_number_166 rfl ?_
                  refine pw_goto 172 h d_X8_number_167 (by decide) ?_
                  refine pw_iret h hr d_X8_number_172 rfl (by decide) (by decide) ?_
                  first
                    | exact absurd u2_s c_145
                    | exact absurd (u2_s.symm.trans c_145) (by decide)
                    | exact absurd ((u2_n2 (by decide)).trans u2_s) c_163
                    | exact absurd (((u2_n2 (by decide)).trans u2_s).symm.trans c_163) (by decide)
                    | exact num_ok f2 hwr c_21 hZ a2 hin c_129 rfl
                    | exact num_no f2 hwr hZ hin c_129 efi rfl
            · skip
              rw [bI_1] at c_129
              refine pw_iconst (x := 1) h d_X8_number_132 (by decide) ?_
              refine pw_goto 137 h d_X8_number_133 (by decide) ?_
              refine pw_putI 8 h d_X8_number_137 fd_RX8_166 (by assumption) rfl rfl rfl (by first | exact Or.inl rfl | exact Or.inr rfl | rfl | decide) ?_
              refine pw_aload_n h 0 d_X8_number_140 rfl ?_
              refine pw_aload_n h 0 d_X8_number_141 rfl ?_
              refine pw_getI 8 h d_X8_number_142 fd_RX8_166 (by assumption) rfl ?_
              refine pw_if_eq 152 h d_X8_number_145 (by decide) (fun c_145 => ?_) (fun c_145 => ?_)
              · skip
                refine pw_aload_n h 0 d_X8_number_152 rfl ?_
                refine pw_getI 8 h d_X8_number_153 fd_RX8_163 (by assumption) rfl ?_
                refine pw_putI 8 h d_X8_number_156 fd_RX8_163 (by assumption) rfl rfl rfl rfl ?_
                refine pw_aload_n h 0 d_X8_number_159 rfl ?_
                refine pw_getI 8 h d_X8_number_160 fd_RX8_166 (by assumption) rfl ?_
                refine pw_if_eq 170 h d_X8_number_163 (by decide) (fun c_163 => ?_) (fun c_163 => ?_)
                · skip
                  refine pw_iload h 4 d_X8_number_170 rfl ?_
                  refine pw_iret h hr d_X8_number_172 rfl (by decide) (by decide) ?_
                  first
                    | exact absurd u2_s c_145
                    | exact absurd (u2_s.symm.trans c_145) (by decide)
                    | exact absurd ((u2_n2 (by decide)).trans u2_s) c_163
                    | exact absurd (((u2_n2 (by decide)).trans u2_s).symm.trans c_163) (by decide)
                    | exact num_ok f2 hwr c_21 hZ a2 hin c_129 rfl
                    | exact num_no f2 hwr hZ hin c_129 efi rfl
                · skip
                  refine pw_iload_n h 1 d_X8_number_166 rfl ?_
                  refine pw_goto 172 h d_X8_number_167 (by decide) ?_
                  refine pw_iret h hr d_X8_number_172 rfl (by decide) (by decide) ?_
                  first
                    | exact absurd u2_s c_145
                    | exact absurd (u2_s.symm.trans c_145) (by decide)
                    | exact absurd ((u2_n2 (by decide)).trans u2_s) c_163
                    | exact absurd (((u2_n2 (by decide)).trans u2_s).symm.trans c_163) (by decide)
                    | exact num_ok f2 hwr c_21 hZ a2 hin c_129 rfl
                    | exact num_no f2 hwr hZ hin c_129 efi rfl
              · skip
                refine pw_iload_n h 3 d_X8_number_148 rfl ?_
                refine pw_goto 156 h d_X8_number_149 (by decide) ?_
                refine pw_putI 8 h d_X8_number_156 fd_RX8_163 (by assumption) rfl rfl rfl rfl ?_
                refine pw_aload_n h 0 d_X8_number_159 rfl ?_
                refine pw_getI 8 h d_X8_number_160 fd_RX8_166 (by assumption) rfl ?_
                refine pw_if_eq 170 h d_X8_number_163 (by decide) (fun c_163 => ?_) (fun c_163 => ?_)
                · skip
                  refine pw_iload h 4 d_X8_number_170 rfl ?_
                  refine pw_iret h hr d_X8_number_172 rfl (by decide) (by decide) ?_
                  first
                    | exact absurd u2_s c_145
                    | exact absurd (u2_s.symm.trans c_145) (by decide)
                    | exact absurd ((u2_n2 (by decide)).trans u2_s) c_163
                    | exact absurd (((u2_n2 (by decide)).trans u2_s).symm.trans c_163) (by decide)
                    | exact num_ok f2 hwr c_21 hZ a2 hin c_129 rfl
                    | exact num_no f2 hwr hZ hin c_129 efi rfl
                · skip
                  refine pw_iload_n h 1 d_X8_number_166 rfl ?_
                  refine pw_goto 172 h d_X8_number_167 (by decide) ?_
                  refine pw_iret h hr d_X8_number_172 rfl (by decide) (by decide) ?_
                  first
                    | exact absurd u2_s c_145
                    | exact absurd (u2_s.symm.trans c_145) (by decide)
                    | exact absurd ((u2_n2 (by decide)).trans u2_s) c_163
                    | exact absurd (((u2_n2 (by decide)).trans u2_s).symm.trans c_163) (by decide)
                    | exact num_ok f2 hwr c_21 hZ a2 hin c_129 rfl
                    | exact num_no f2 hwr hZ hin c_129 efi rfl
          · skip
            have hlt : c < T := k_lt a2 T2 (by omega) (by omega) c_47
            have hx : px_ix (I2 m 10) 120 c := k_ix a2 (by omega) (by decide)
            refine pw_aload_n h 0 d_X8_number_50 rfl ?_
            refine pw_getR (j := (m + 7)) 8 h d_X8_number_51 fd_RX8_32 (by assumption) rfl (by assumption) ?_
            refine pw_aload_n h 0 d_X8_number_54 rfl ?_
            refine pw_getI 8 h d_X8_number_55 fd_RX8_163 (by assumption) rfl ?_
            refine pw_iald h d_X8_number_58 (by assumption) (by assumption) ?_
            refine pw_i2l h d_X8_number_59 ?_
            refine pw_ldc2 h d_X8_number_60 ck_RX8_174 ?_
            refine pw_ldc2 h d_X8_number_63 ck_RX8_176 ?_
            refine pw_callS (As := [.long _, .long _, .long _]) h d_X8_number_66 mf_X8_in st_yX8_in ml_RX8_105 ⟨by decide, by decide, by decide⟩ rfl rfl (Nat.le_of_ble_eq_true rfl) (c_X8_inW (a := 48) (b := 57) rfl rfl) ?_
            refine PKk.ret ?_
            refine pw_if_eq 118 h d_X8_number_69 (by decide) (fun c_69 => ?_) (fun c_69 => ?_)
            · skip
              rw [bI_1] at c_69
              have hst : nzA (I (m + 7)) T c V = (c, V) := nzA_st (fun q => by rw [← x2, c_69] at q; exact absurd q.2 (by decide))
              have hZ : numZ (I (m + 7)) T (skB (I (m + 7)) a T) = (c, V) := hq.symm.trans hst
              have hin := capR_in hv hlo hhi hh
              refine pw_aload_n h 0 d_X8_number_118 rfl ?_
              refine pw_iload h 4 d_X8_number_119 rfl ?_
              refine pw_i2l h d_X8_number_121 ?_
              refine pw_iload_n h 1 d_X8_number_122 rfl ?_
              refine pw_i2l h d_X8_number_123 ?_
              refine pw_iload_n h 2 d_X8_number_124 rfl ?_
              refine pw_i2l h d_X8_number_125 ?_
              refine pw_callS (As := [.long _, .long _, .long _]) h d_X8_number_126 mf_X8_in st_yX8_in ml_RX8_105 ⟨by decide, by decide, by decide⟩ rfl rfl (Nat.le_of_ble_eq_true rfl) (c_X8_inW (a := a1) (b := b1) (Int32.toInt_toInt64 a1) (Int32.toInt_toInt64 b1)) ?_
              refine PKk.ret ?_
              refine pw_if_ne 136 h d_X8_number_129 (by decide) (fun c_129 => ?_) (fun c_129 => ?_)
              · skip
                rw [bI_1, Bool.not_eq_false] at c_129
                refine pw_iconst (x := 0) h d_X8_number_136 (by decide) ?_
                refine pw_putI 8 h d_X8_number_137 fd_RX8_166 (by assumption) rfl rfl rfl (by first | exact Or.inl rfl | exact Or.inr rfl | rfl | decide) ?_
                refine pw_aload_n h 0 d_X8_number_140 rfl ?_
                refine pw_aload_n h 0 d_X8_number_141 rfl ?_
                refine pw_getI 8 h d_X8_number_142 fd_RX8_166 (by assumption) rfl ?_
                refine pw_if_eq 152 h d_X8_number_145 (by decide) (fun c_145 => ?_) (fun c_145 => ?_)
                · skip
                  refine pw_aload_n h 0 d_X8_number_152 rfl ?_
                  refine pw_getI 8 h d_X8_number_153 fd_RX8_163 (by assumption) rfl ?_
                  refine pw_putI 8 h d_X8_number_156 fd_RX8_163 (by assumption) rfl rfl rfl rfl ?_
                  refine pw_aload_n h 0 d_X8_number_159 rfl ?_
                  refine pw_getI 8 h d_X8_number_160 fd_RX8_166 (by assumption) rfl ?_
                  refine pw_if_eq 170 h d_X8_number_163 (by decide) (fun c_163 => ?_) (fun c_163 => ?_)
                  · skip
                    refine pw_iload h 4 d_X8_number_170 rfl ?_
                    refine pw_iret h hr d_X8_number_172 rfl (by decide) (by decide) ?_
                    first
                      | exact absurd u2_s c_145
                      | exact absurd (u2_s.symm.trans c_145) (by decide)
                      | exact absurd ((u2_n2 (by decide)).trans u2_s) c_163
                      | exact absurd (((u2_n2 (by decide)).trans u2_s).symm.trans c_163) (by decide)
                      | exact num_ok f2 hwr c_21 hZ a2 hin c_129 rfl
                      | exact num_no f2 hwr hZ hin c_129 efi rfl
                  · skip
                    refine pw_iload_n h 1 d_X8_number_166 rfl ?_
                    refine pw_goto 172 h d_X8_number_167 (by decide) ?_
                    refine pw_iret h hr d_X8_number_172 rfl (by decide) (by decide) ?_
                    first
                      | exact absurd u2_s c_145
                      | exact absurd (u2_s.symm.trans c_145) (by decide)
                      | exact absurd ((u2_n2 (by decide)).trans u2_s) c_163
                      | exact absurd (((u2_n2 (by decide)).trans u2_s).symm.trans c_163) (by decide)
                      | exact num_ok f2 hwr c_21 hZ a2 hin c_129 rfl
                      | exact num_no f2 hwr hZ hin c_129 efi rfl
                · skip
                  refine pw_iload_n h 3 d_X8_number_148 rfl ?_
                  refine pw_goto 156 h d_X8_number_149 (by decide) ?_
                  refine pw_putI 8 h d_X8_number_156 fd_RX8_163 (by assumption) rfl rfl rfl rfl ?_
                  refine pw_aload_n h 0 d_X8_number_159 rfl ?_
                  refine pw_getI 8 h d_X8_number_160 fd_RX8_166 (by assumption) rfl ?_
                  refine pw_if_eq 170 h d_X8_number_163 (by decide) (fun c_163 => ?_) (fun c_163 => ?_)
                  · skip
                    refine pw_iload h 4 d_X8_number_170 rfl ?_
                    refine pw_iret h hr d_X8_number_172 rfl (by decide) (by decide) ?_
                    first
                      | exact absurd u2_s c_145
                      | exact absurd (u2_s.symm.trans c_145) (by decide)
                      | exact absurd ((u2_n2 (by decide)).trans u2_s) c_163
                      | exact absurd (((u2_n2 (by decide)).trans u2_s).symm.trans c_163) (by decide)
                      | exact num_ok f2 hwr c_21 hZ a2 hin c_129 rfl
                      | exact num_no f2 hwr hZ hin c_129 efi rfl
                  · skip
                    refine pw_iload_n h 1 d_X8_number_166 rfl ?_
                    refine pw_goto 172 h d_X8_number_167 (by decide) ?_
                    refine pw_iret h hr d_X8_number_172 rfl (by decide) (by decide) ?_
                    first
                      | exact absurd u2_s c_145
                      | exact absurd (u2_s.symm.trans c_145) (by decide)
                      | exact absurd ((u2_n2 (by decide)).trans u2_s) c_163
                      | exact absurd (((u2_n2 (by decide)).trans u2_s).symm.trans c_163) (by decide)
                      | exact num_ok f2 hwr c_21 hZ a2 hin c_129 rfl
                      | exact num_no f2 hwr hZ hin c_129 efi rfl
              · skip
                rw [bI_1] at c_129
                refine pw_iconst (x := 1) h d_X8_number_132 (by decide) ?_
                refine pw_goto 137 h d_X8_number_133 (by decide) ?_
                refine pw_putI 8 h d_X8_number_137 fd_RX8_166 (by assumption) rfl rfl rfl (by first | exact Or.inl rfl | exact Or.inr rfl | rfl | decide) ?_
                refine pw_aload_n h 0 d_X8_number_140 rfl ?_
                refine pw_aload_n h 0 d_X8_number_141 rfl ?_
                refine pw_getI 8 h d_X8_number_142 fd_RX8_166 (by assumption) rfl ?_
                refine pw_if_eq 152 h d_X8_number_145 (by decide) (fun c_145 => ?_) (fun c_145 => ?_)
                · skip
                  refine pw_aload_n h 0 d_X8_number_152 rfl ?_
                  refine pw_getI 8 h d_X8_number_153 fd_RX8_163 (by assumption) rfl ?_
                  refine pw_putI 8 h d_X8_number_156 fd_RX8_163 (by assumption) rfl rfl rfl rfl ?_
                  refine pw_aload_n h 0 d_X8_number_159 rfl ?_
                  refine pw_getI 8 h d_X8_number_160 fd_RX8_166 (by assumption) rfl ?_
                  refine pw_if_eq 170 h d_X8_number_163 (by decide) (fun c_163 => ?_) (fun c_163 => ?_)
                  · skip
                    refine pw_iload h 4 d_X8_number_170 rfl ?_
                    refine pw_iret h hr d_X8_number_172 rfl (by decide) (by decide) ?_
                    first
                      | exact absurd u2_s c_145
                      | exact absurd (u2_s.symm.trans c_145) (by decide)
                      | exact absurd ((u2_n2 (by decide)).trans u2_s) c_163
                      | exact absurd (((u2_n2 (by decide)).trans u2_s).symm.trans c_163) (by decide)
                      | exact num_ok f2 hwr c_21 hZ a2 hin c_129 rfl
                      | exact num_no f2 hwr hZ hin c_129 efi rfl
                  · skip
                    refine pw_iload_n h 1 d_X8_number_166 rfl ?_
                    refine pw_goto 172 h d_X8_number_167 (by decide) ?_
                    refine pw_iret h hr d_X8_number_172 rfl (by decide) (by decide) ?_
                    first
                      | exact absurd u2_s c_145
                      | exact absurd (u2_s.symm.trans c_145) (by decide)
                      | exact absurd ((u2_n2 (by decide)).trans u2_s) c_163
                      | exact absurd (((u2_n2 (by decide)).trans u2_s).symm.trans c_163) (by decide)
                      | exact num_ok f2 hwr c_21 hZ a2 hin c_129 rfl
                      | exact num_no f2 hwr hZ hin c_129 efi rfl
                · skip
                  refine pw_iload_n h 3 d_X8_number_148 rfl ?_
                  refine pw_goto 156 h d_X8_number_149 (by decide) ?_
                  refine pw_putI 8 h d_X8_number_156 fd_RX8_163 (by assumption) rfl rfl rfl rfl ?_
                  refine pw_aload_n h 0 d_X8_number_159 rfl ?_
                  refine pw_getI 8 h d_X8_number_160 fd_RX8_166 (by assumption) rfl ?_
                  refine pw_if_eq 170 h d_X8_number_163 (by decide) (fun c_163 => ?_) (fun c_163 => ?_)
                  · skip
                    refine pw_iload h 4 d_X8_number_170 rfl ?_
                    refine pw_iret h hr d_X8_number_172 rfl (by decide) (by decide) ?_
                    first
                      | exact absurd u2_s c_145
                      | exact absurd (u2_s.symm.trans c_145) (by decide)
                      | exact absurd ((u2_n2 (by decide)).trans u2_s) c_163
                      | exact absurd (((u2_n2 (by decide)).trans u2_s).symm.trans c_163) (by decide)
                      | exact num_ok f2 hwr c_21 hZ a2 hin c_129 rfl
                      | exact num_no f2 hwr hZ hin c_129 efi rfl
                  · skip
                    refine pw_iload_n h 1 d_X8_number_166 rfl ?_
                    refine pw_goto 172 h d_X8_number_167 (by decide) ?_
                    refine pw_iret h hr d_X8_number_172 rfl (by decide) (by decide) ?_
                    first
                      | exact absurd u2_s c_145
                      | exact absurd (u2_s.symm.trans c_145) (by decide)
                      | exact absurd ((u2_n2 (by decide)).trans u2_s) c_163
                      | exact absurd (((u2_n2 (by decide)).trans u2_s).symm.trans c_163) (by decide)
                      | exact num_ok f2 hwr c_21 hZ a2 hin c_129 rfl
                      | exact num_no f2 hwr hZ hin c_129 efi rfl
            · skip
              rw [bI_1, Bool.not_eq_false] at c_69
              have hdg : isW (I (m + 7) c) 48 57 = true := by rw [← x2]; exact c_69
              refine pw_iload h 4 d_X8_number_72 rfl ?_
              refine pw_sipush (x := 9999) h d_X8_number_74 (by decide) ?_
              refine pw_icmp_le 85 h d_X8_number_77 (by decide) (fun c_77 => ?_) (fun c_77 => ?_)
              · skip
                refine pw_bipush (x := 10) h d_X8_number_85 (by decide) ?_
                refine pw_iload h 4 d_X8_number_87 rfl ?_
                refine pw_imul h d_X8_number_89 ?_
                refine pw_aload_n h 0 d_X8_number_90 rfl ?_
                refine pw_getR (j := (m + 7)) 8 h d_X8_number_91 fd_RX8_32 (by assumption) rfl (by assumption) ?_
                refine pw_aload_n h 0 d_X8_number_94 rfl ?_
                refine pw_getI 8 h d_X8_number_95 fd_RX8_163 (by assumption) rfl ?_
                refine pw_iald h d_X8_number_98 (by assumption) (by assumption) ?_
                refine pw_iadd h d_X8_number_99 ?_
                refine pw_bipush (x := 48) h d_X8_number_100 (by decide) ?_
                refine pw_isub h d_X8_number_102 ?_
                refine pw_nmI (fun v4_103 e4_103 => ?_)
                refine pw_istore (lv' := [(4, .int v4_103), (0, .ref m), (1, .int a1), (2, .int b1), (3, .int fi)]) h d_X8_number_103 _ hml (by decide) rfl ?_
                refine pw_aload_n h 1 d_X8_number_105 rfl ?_
                refine pw_dupR h d_X8_number_106 ?_
                refine pw_getI 8 h d_X8_number_107 fd_RX8_163 (by assumption) rfl ?_
                refine pw_iconst (x := 1) h d_X8_number_110 (by decide) ?_
                refine pw_iadd h d_X8_number_111 ?_
                refine pw_putI 8 h d_X8_number_112 fd_RX8_163 (by assumption) rfl rfl rfl rfl ?_
                refine pw_goto 39 h d_X8_number_115 (by decide) ?_
                refine PW.perm [1, 2, 3, 4, 0] rfl ?_
                exact ih (c + 1) (10 * V + (I (m + 7) c).toInt.toNat - 48) fi v4_103 _ (by omega) (by omega) efi (by rw [e4_103]; first | exact capR_big hv c_77 hdg | (rw [x2]; exact capR_s hv c_77 hdg)) (by rw [← nzA_go hlt hdg]; exact hq) (frN_t f2 (frN_u (Or.inl rfl))) (by rw [u2_s, a2, nI_1]) (by rw [u2_n2 (by decide)]; exact w2)
              · skip
                refine pw_iload h 4 d_X8_number_80 rfl ?_
                refine pw_goto 103 h d_X8_number_82 (by decide) ?_
                refine pw_nmI (fun v4_103 e4_103 => ?_)
                refine pw_istore (lv' := [(4, .int v4_103), (0, .ref m), (1, .int a1), (2, .int b1), (3, .int fi)]) h d_X8_number_103 _ hml (by decide) rfl ?_
                refine pw_aload_n h 1 d_X8_number_105 rfl ?_
                refine pw_dupR h d_X8_number_106 ?_
                refine pw_getI 8 h d_X8_number_107 fd_RX8_163 (by assumption) rfl ?_
                refine pw_iconst (x := 1) h d_X8_number_110 (by decide) ?_
                refine pw_iadd h d_X8_number_111 ?_
                refine pw_putI 8 h d_X8_number_112 fd_RX8_163 (by assumption) rfl rfl rfl rfl ?_
                refine pw_goto 39 h d_X8_number_115 (by decide) ?_
                refine PW.perm [1, 2, 3, 4, 0] rfl ?_
                exact ih (c + 1) (10 * V + (I (m + 7) c).toInt.toNat - 48) fi v4_103 _ (by omega) (by omega) efi (by rw [e4_103]; first | exact capR_big hv c_77 hdg | (rw [x2]; exact capR_s hv c_77 hdg)) (by rw [← nzA_go hlt hdg]; exact hq) (frN_t f2 (frN_u (Or.inl rfl))) (by rw [u2_s, a2, nI_1]) (by rw [u2_n2 (by decide)]; exact w2)
      refine PW.perm [2, 3, 4, 1, 0] rfl ?_
      exact cut_39 (T + 1) (skB (I (m + 7)) a T) 0 v3_35 v4_37 _ (by omega) hsk.2 efi (by rw [e4_37]; exact capR_0) rfl fN1 a1_ w1
    · skip
      rw [bI_1] at c_21
      rw [nx0_dg] at c_21
      refine pw_aload_n h 0 d_X8_number_24 rfl ?_
      refine pw_iconst (x := 1) h d_X8_number_25 (by decide) ?_
      refine pw_putI 8 h d_X8_number_26 fd_RX8_166 (by assumption) rfl rfl rfl rfl ?_
      refine pw_iconst (x := 0) h d_X8_number_29 (by decide) ?_
      refine pw_iret h hr d_X8_number_30 rfl (by decide) (by decide) ?_
      first
        | exact num_bad (frN_u (Or.inr rfl)) (fun q => absurd (hwr.symm.trans q) (by decide)) (fun _ => u2_n2 (by decide)) u2_s
        | exact num_bad (frN_t fN1 (frN_u (Or.inr rfl))) (fun _ => ⟨fun q => absurd (q.1.symm.trans c_21) (by decide), by rw [u2_n2 (by decide)]; exact a1_⟩) (fun q => absurd (hwr.symm.trans q) (by decide)) u2_s
