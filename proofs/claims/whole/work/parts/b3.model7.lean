set_option maxHeartbeats 4000000 in
set_option maxRecDepth 100000 in
theorem c_X8_figure0 {sh : Sh} {I : IM} {L : LM} {R : RM} {m T a : Nat} (hM : ModF sh R m) (hT : I m 9 = nI T) (ha : I m 10 = nI a) (hT2 : T ≤ 120) (haT : a ≤ T) (hw : I m 11 = 0) {n : Nat} (h12 : I m 12 = nI n) (h6 : n ≤ 6) : PMet M_X8_figure [.ref m, .int 0] sh I L R (figP sh I L R m T a (fun p => 0 < I (m + 10) p)) := by
  refine PMet.of mf_X8_figure (Nat.le_of_ble_eq_true rfl) ?_
  intro X h hr hml
  have hml : (xc X).maxLocals = 6 := hml
  have h : PXok X RX8 cX8_figure 3 0 0 := h
  have hr : PXr X (some .int) "figure" _ 0 0 := hr
  have hM0 := hM
  obtain ⟨f0, f1, f2, f3, f4, f5, f6, f7, f8, f9, f10, f11, f12, f13, f14, f15, f16, f17, f18, f19, f20, f21, f22, f23, f24, f25, f26, f27, g1, g2, g3, g4, g5, g6, g7, g8, g9, g10, g11, g12, g13, g14, g15, g16, g17, g18, g19, g20, g21, g22, g23, g24, g25, g26, g27⟩ := hM
  show PW X 0 [(0, .ref m), (1, .int 0)] [] sh I L R 0 0
  refine pw_aload_n h 0 d_X8_figure_0 rfl ?_
  refine pw_callV (As := []) h d_X8_figure_1 mf_X8_next mi_X8_next ml_RX8_170 ⟨by decide, by decide, by decide⟩ (by assumption) rfl rfl (Nat.le_of_ble_eq_true rfl) trivial (c_X8_next hM0 hT ha hT2 haT) ?_
  intro ret1 sh1 I1 L1 R1 hp1
  obtain ⟨e0, e1, eI, eL, eR⟩ := hp1
  subst e0
  have e1 := e1.symm
  have eR := eR.symm
  have eL := eL.symm
  subst e1
  subst eR
  subst eL
  refine ⟨rfl, ?_⟩
  have fN1 : frN m I I1 := by rw [eI]; exact frN_u (Or.inl rfl)
  have a1_ : I1 m 10 = nI (skB (I (m + 7)) a T) := by rw [eI]; exact u2_s
  have w1 : I1 m 11 = 0 := by rw [eI, u2_n2 (by decide)]; exact hw
  have T1 : I1 m 9 = nI T := by rw [eI, u2_n2 (by decide)]; exact hT
  have x1 : I1 (m + 7) = I (m + 7) := frN_f fN1 (by decide)
  have hsk := skB_le (f := I (m + 7)) haT
  clear eI
  refine pw_popI h d_X8_figure_4 ?_
  refine pw_aload_n h 0 d_X8_figure_5 rfl ?_
  refine pw_getI 8 h d_X8_figure_6 fd_RX8_163 (by assumption) rfl ?_
  refine pw_nmI (fun v2_9 e2_9 => ?_)
  refine pw_istore_n (lv' := [(2, .int v2_9), (0, .ref m), (1, .int 0)]) h d_X8_figure_9 rfl _ hml (by decide) rfl ?_
  refine pw_aload_n h 1 d_X8_figure_10 rfl ?_
  refine pw_iconst (x := 0) h d_X8_figure_11 (by decide) ?_
  refine pw_bipush (x := 12) h d_X8_figure_12 (by decide) ?_
  refine pw_callV (As := [.int _, .int _]) h d_X8_figure_14 mf_X8_number mi_X8_number ml_RX8_178 ⟨by decide, by decide, by decide⟩ (by assumption) rfl rfl (Nat.le_of_ble_eq_true rfl) trivial (c_X8_number hM0 T1 a1_ hT2 hsk.2 (wr := false) w1 (lo := 0) (hi := 12) rfl rfl (by decide)) ?_
  intro ret3 sh3 I3 L3 R3 hp3
  obtain ⟨e1, eR, eL, f3, x, ex, hx3⟩ := hp3
  have e1 := e1.symm
  have eR := eR.symm
  have eL := eL.symm
  subst e1
  subst eR
  subst eL
  subst ex
  have fN3 : frN m I I3 := frN_t fN1 f3
  have hfn := fig_n haT x1 hx3
  obtain ⟨p, hp, epx, hfg⟩ := hfn
  clear hx3
  refine ⟨rfl, ?_⟩
  refine pw_nmI (fun v3_17 e3_17 => ?_)
  refine pw_istore_n (lv' := [(3, .int v3_17), (2, .int v2_9), (0, .ref m), (1, .int 0)]) h d_X8_figure_17 rfl _ hml (by decide) rfl ?_
  refine pw_iload_n h 3 d_X8_figure_18 rfl ?_
  refine pw_if_ne 35 h d_X8_figure_19 (by decide) (fun c_19 => ?_) (fun c_19 => ?_)
  · exact absurd rfl c_19
  · skip
    have ep : v3_17 = nI p := e3_17.trans epx
    have hx : px_ix v3_17 13 p := k_ix ep hp (by decide)
    have x10 : I3 (m + 10) p = I (m + 10) p := fN3 _ _ (Or.inl (by omega))
    have efi : v2_9 = nI (skB (I (m + 7)) a T) := e2_9.trans a1_
    refine pw_aload_n h 2 d_X8_figure_22 rfl ?_
    refine pw_getR (j := (m + 10)) 8 h d_X8_figure_23 fd_RX8_41 (by assumption) rfl (by assumption) ?_
    refine pw_iload_n h 0 d_X8_figure_26 rfl ?_
    refine pw_iald h d_X8_figure_27 (by assumption) (by assumption) ?_
    refine pw_if_le 35 h d_X8_figure_28 (by decide) (fun c_28 => ?_) (fun c_28 => ?_)
    · skip
      have hbq : false = true ↔ 0 < I (m + 10) p := by rw [x10] at c_28; exact ⟨fun q => (by cases q), fun q => absurd (Int32.lt_iff_toInt_lt.mp q) (by have := Int32.le_iff_toInt_le.mp c_28; omega)⟩
      refine pw_iconst (x := 0) h d_X8_figure_35 (by decide) ?_
      refine pw_nmI (fun v4_36 e4_36 => ?_)
      refine pw_istore (lv' := [(4, .int v4_36), (3, .int v3_17), (2, .int v2_9), (0, .ref m), (1, .int 0)]) h d_X8_figure_36 _ hml (by decide) rfl ?_
      refine pw_iconst (x := 0) h d_X8_figure_38 (by decide) ?_
      refine pw_nmI (fun v5_39 e5_39 => ?_)
      refine pw_istore (lv' := [(5, .int v5_39), (4, .int v4_36), (3, .int v3_17), (2, .int v2_9), (0, .ref m), (1, .int 0)]) h d_X8_figure_39 _ hml (by decide) rfl ?_
      refine pw_iload h 0 d_X8_figure_41 rfl ?_
      refine pw_aload_n h 4 d_X8_figure_43 rfl ?_
      refine pw_getI 8 h d_X8_figure_44 fd_RX8_181 (by assumption) rfl ?_
      refine pw_icmp_ge 83 h d_X8_figure_47 (by decide) (fun c_47 => ?_) (fun c_47 => ?_)
      · skip
        refine pw_aload_n h 4 d_X8_figure_83 rfl ?_
        refine pw_getI 8 h d_X8_figure_84 fd_RX8_166 (by assumption) rfl ?_
        refine pw_if_ne 105 h d_X8_figure_87 (by decide) (fun c_87 => ?_) (fun c_87 => ?_)
        · skip
          refine pw_iload_n h 2 d_X8_figure_105 rfl ?_
          refine pw_iret h hr d_X8_figure_106 rfl (by decide) (by decide) ?_
          rw [ep]
          first
            | exact fig_has fN3 hp hfg hbq c_87 rfl efi rfl
            | exact fig_end fN3 hp hfg hbq (fun q => absurd q c_87)
            | exact fig_end fN3 hp hfg hbq (fun q => rfl)
            | exact absurd (e4_36.symm.trans c_92) (by decide)
            | exact absurd e4_36 c_92
        · skip
          refine pw_iload h 1 d_X8_figure_90 rfl ?_
          refine pw_if_eq 105 h d_X8_figure_92 (by decide) (fun c_92 => ?_) (fun c_92 => ?_)
          · skip
            refine pw_iload_n h 2 d_X8_figure_105 rfl ?_
            refine pw_iret h hr d_X8_figure_106 rfl (by decide) (by decide) ?_
            rw [ep]
            first
              | exact fig_has fN3 hp hfg hbq c_87 rfl efi rfl
              | exact fig_end fN3 hp hfg hbq (fun q => absurd q c_87)
              | exact fig_end fN3 hp hfg hbq (fun q => rfl)
              | exact absurd (e4_36.symm.trans c_92) (by decide)
              | exact absurd e4_36 c_92
          · skip
            refine pw_aload_n h 4 d_X8_figure_95 rfl ?_
            refine pw_iconst (x := 1) h d_X8_figure_96 (by decide) ?_
            refine pw_putI 8 h d_X8_figure_97 fd_RX8_166 (by assumption) rfl rfl rfl rfl ?_
            refine pw_aload_n h 4 d_X8_figure_100 rfl ?_
            refine pw_iload_n h 3 d_X8_figure_101 rfl ?_
            refine pw_putI 8 h d_X8_figure_102 fd_RX8_163 (by assumption) rfl rfl rfl rfl ?_
            refine pw_iload_n h 2 d_X8_figure_105 rfl ?_
            refine pw_iret h hr d_X8_figure_106 rfl (by decide) (by decide) ?_
            rw [ep]
            first
              | exact fig_has fN3 hp hfg hbq c_87 rfl efi rfl
              | exact fig_end fN3 hp hfg hbq (fun q => absurd q c_87)
              | exact fig_end fN3 hp hfg hbq (fun q => rfl)
              | exact absurd (e4_36.symm.trans c_92) (by decide)
              | exact absurd e4_36 c_92
      · skip
        refine pw_iload_n h 5 d_X8_figure_50 rfl ?_
        refine pw_if_eq 83 h d_X8_figure_51 (by decide) (fun c_51 => ?_) (fun c_51 => ?_)
        · skip
          refine pw_aload_n h 4 d_X8_figure_83 rfl ?_
          refine pw_getI 8 h d_X8_figure_84 fd_RX8_166 (by assumption) rfl ?_
          refine pw_if_ne 105 h d_X8_figure_87 (by decide) (fun c_87 => ?_) (fun c_87 => ?_)
          · skip
            refine pw_iload_n h 2 d_X8_figure_105 rfl ?_
            refine pw_iret h hr d_X8_figure_106 rfl (by decide) (by decide) ?_
            rw [ep]
            first
              | exact fig_has fN3 hp hfg hbq c_87 rfl efi rfl
              | exact fig_end fN3 hp hfg hbq (fun q => absurd q c_87)
              | exact fig_end fN3 hp hfg hbq (fun q => rfl)
              | exact absurd (e4_36.symm.trans c_92) (by decide)
              | exact absurd e4_36 c_92
          · skip
            refine pw_iload h 1 d_X8_figure_90 rfl ?_
            refine pw_if_eq 105 h d_X8_figure_92 (by decide) (fun c_92 => ?_) (fun c_92 => ?_)
            · skip
              refine pw_iload_n h 2 d_X8_figure_105 rfl ?_
              refine pw_iret h hr d_X8_figure_106 rfl (by decide) (by decide) ?_
              rw [ep]
              first
                | exact fig_has fN3 hp hfg hbq c_87 rfl efi rfl
                | exact fig_end fN3 hp hfg hbq (fun q => absurd q c_87)
                | exact fig_end fN3 hp hfg hbq (fun q => rfl)
                | exact absurd (e4_36.symm.trans c_92) (by decide)
                | exact absurd e4_36 c_92
            · skip
              refine pw_aload_n h 4 d_X8_figure_95 rfl ?_
              refine pw_iconst (x := 1) h d_X8_figure_96 (by decide) ?_
              refine pw_putI 8 h d_X8_figure_97 fd_RX8_166 (by assumption) rfl rfl rfl rfl ?_
              refine pw_aload_n h 4 d_X8_figure_100 rfl ?_
              refine pw_iload_n h 3 d_X8_figure_101 rfl ?_
              refine pw_putI 8 h d_X8_figure_102 fd_RX8_163 (by assumption) rfl rfl rfl rfl ?_
              refine pw_iload_n h 2 d_X8_figure_105 rfl ?_
              refine pw_iret h hr d_X8_figure_106 rfl (by decide) (by decide) ?_
              rw [ep]
              first
                | exact fig_has fN3 hp hfg hbq c_87 rfl efi rfl
                | exact fig_end fN3 hp hfg hbq (fun q => absurd q c_87)
                | exact fig_end fN3 hp hfg hbq (fun q => rfl)
                | exact absurd (e4_36.symm.trans c_92) (by decide)
                | exact absurd e4_36 c_92
        · exact absurd rfl c_51
    · skip
      have hbq : true = true ↔ 0 < I (m + 10) p := by rw [x10] at c_28; exact ⟨fun _ => by rw [Int32.le_iff_toInt_le] at c_28; rw [Int32.lt_iff_toInt_lt]; omega, fun _ => rfl⟩
      refine pw_iconst (x := 1) h d_X8_figure_31 (by decide) ?_
      refine pw_goto 36 h d_X8_figure_32 (by decide) ?_
      refine pw_nmI (fun v4_36 e4_36 => ?_)
      refine pw_istore (lv' := [(4, .int v4_36), (3, .int v3_17), (2, .int v2_9), (0, .ref m), (1, .int 0)]) h d_X8_figure_36 _ hml (by decide) rfl ?_
      refine pw_iconst (x := 0) h d_X8_figure_38 (by decide) ?_
      refine pw_nmI (fun v5_39 e5_39 => ?_)
      refine pw_istore (lv' := [(5, .int v5_39), (4, .int v4_36), (3, .int v3_17), (2, .int v2_9), (0, .ref m), (1, .int 0)]) h d_X8_figure_39 _ hml (by decide) rfl ?_
      refine pw_iload h 0 d_X8_figure_41 rfl ?_
      refine pw_aload_n h 4 d_X8_figure_43 rfl ?_
      refine pw_getI 8 h d_X8_figure_44 fd_RX8_181 (by assumption) rfl ?_
      refine pw_icmp_ge 83 h d_X8_figure_47 (by decide) (fun c_47 => ?_) (fun c_47 => ?_)
      · skip
        refine pw_aload_n h 4 d_X8_figure_83 rfl ?_
        refine pw_getI 8 h d_X8_figure_84 fd_RX8_166 (by assumption) rfl ?_
        refine pw_if_ne 105 h d_X8_figure_87 (by decide) (fun c_87 => ?_) (fun c_87 => ?_)
        · skip
          refine pw_iload_n h 2 d_X8_figure_105 rfl ?_
          refine pw_iret h hr d_X8_figure_106 rfl (by decide) (by decide) ?_
          rw [ep]
          first
            | exact fig_has fN3 hp hfg hbq c_87 rfl efi rfl
            | exact fig_end fN3 hp hfg hbq (fun q => absurd q c_87)
            | exact fig_end fN3 hp hfg hbq (fun q => rfl)
            | exact absurd (e4_36.symm.trans c_92) (by decide)
            | exact absurd e4_36 c_92
        · skip
          refine pw_iload h 1 d_X8_figure_90 rfl ?_
          refine pw_if_eq 105 h d_X8_figure_92 (by decide) (fun c_92 => ?_) (fun c_92 => ?_)
          · skip
            refine pw_iload_n h 2 d_X8_figure_105 rfl ?_
            refine pw_iret h hr d_X8_figure_106 rfl (by decide) (by decide) ?_
            rw [ep]
            first
              | exact fig_has fN3 hp hfg hbq c_87 rfl efi rfl
              | exact fig_end fN3 hp hfg hbq (fun q => absurd q c_87)
              | exact fig_end fN3 hp hfg hbq (fun q => rfl)
              | exact absurd (e4_36.symm.trans c_92) (by decide)
              | exact absurd e4_36 c_92
          · skip
            refine pw_aload_n h 4 d_X8_figure_95 rfl ?_
            refine pw_iconst (x := 1) h d_X8_figure_96 (by decide) ?_
            refine pw_putI 8 h d_X8_figure_97 fd_RX8_166 (by assumption) rfl rfl rfl rfl ?_
            refine pw_aload_n h 4 d_X8_figure_100 rfl ?_
            refine pw_iload_n h 3 d_X8_figure_101 rfl ?_
            refine pw_putI 8 h d_X8_figure_102 fd_RX8_163 (by assumption) rfl rfl rfl rfl ?_
            refine pw_iload_n h 2 d_X8_figure_105 rfl ?_
            refine pw_iret h hr d_X8_figure_106 rfl (by decide) (by decide) ?_
            rw [ep]
            first
              | exact fig_has fN3 hp hfg hbq c_87 rfl efi rfl
              | exact fig_end fN3 hp hfg hbq (fun q => absurd q c_87)
              | exact fig_end fN3 hp hfg hbq (fun q => rfl)
              | exact absurd (e4_36.symm.trans c_92) (by decide)
              | exact absurd e4_36 c_92
      · skip
        refine pw_iload_n h 5 d_X8_figure_50 rfl ?_
        refine pw_if_eq 83 h d_X8_figure_51 (by decide) (fun c_51 => ?_) (fun c_51 => ?_)
        · skip
          refine pw_aload_n h 4 d_X8_figure_83 rfl ?_
          refine pw_getI 8 h d_X8_figure_84 fd_RX8_166 (by assumption) rfl ?_
          refine pw_if_ne 105 h d_X8_figure_87 (by decide) (fun c_87 => ?_) (fun c_87 => ?_)
          · skip
            refine pw_iload_n h 2 d_X8_figure_105 rfl ?_
            refine pw_iret h hr d_X8_figure_106 rfl (by decide) (by decide) ?_
            rw [ep]
            first
              | exact fig_has fN3 hp hfg hbq c_87 rfl efi rfl
              | exact fig_end fN3 hp hfg hbq (fun q => absurd q c_87)
              | exact fig_end fN3 hp hfg hbq (fun q => rfl)
              | exact absurd (e4_36.symm.trans c_92) (by decide)
              | exact absurd e4_36 c_92
          · skip
            refine pw_iload h 1 d_X8_figure_90 rfl ?_
            refine pw_if_eq 105 h d_X8_figure_92 (by decide) (fun c_92 => ?_) (fun c_92 => ?_)
            · skip
              refine pw_iload_n h 2 d_X8_figure_105 rfl ?_
              refine pw_iret h hr d_X8_figure_106 rfl (by decide) (by decide) ?_
              rw [ep]
              first
                | exact fig_has fN3 hp hfg hbq c_87 rfl efi rfl
                | exact fig_end fN3 hp hfg hbq (fun q => absurd q c_87)
                | exact fig_end fN3 hp hfg hbq (fun q => rfl)
                | exact absurd (e4_36.symm.trans c_92) (by decide)
                | exact absurd e4_36 c_92
            · skip
              refine pw_aload_n h 4 d_X8_figure_95 rfl ?_
              refine pw_iconst (x := 1) h d_X8_figure_96 (by decide) ?_
              refine pw_putI 8 h d_X8_figure_97 fd_RX8_166 (by assumption) rfl rfl rfl rfl ?_
              refine pw_aload_n h 4 d_X8_figure_100 rfl ?_
              refine pw_iload_n h 3 d_X8_figure_101 rfl ?_
              refine pw_putI 8 h d_X8_figure_102 fd_RX8_163 (by assumption) rfl rfl rfl rfl ?_
              refine pw_iload_n h 2 d_X8_figure_105 rfl ?_
              refine pw_iret h hr d_X8_figure_106 rfl (by decide) (by decide) ?_
              rw [ep]
              first
                | exact fig_has fN3 hp hfg hbq c_87 rfl efi rfl
                | exact fig_end fN3 hp hfg hbq (fun q => absurd q c_87)
                | exact fig_end fN3 hp hfg hbq (fun q => rfl)
                | exact absurd (e4_36.symm.trans c_92) (by decide)
                | exact absurd e4_36 c_92
        · exact absurd rfl c_51

set_option maxHeartbeats 4000000 in
set_option maxRecDepth 100000 in
theorem c_X8_figure1 {sh : Sh} {I : IM} {L : LM} {R : RM} {m T a : Nat} (hM : ModF sh R m) (hT : I m 9 = nI T) (ha : I m 10 = nI a) (hT2 : T ≤ 120) (haT : a ≤ T) (hw : I m 11 = 0) {n : Nat} (h12 : I m 12 = nI n) (h6 : n ≤ 6) : PMet M_X8_figure [.ref m, .int 1] sh I L R (figP sh I L R m T a (fun p => orB (fun k => decide (I (m + 8) k = nI p)) n = true)) := by
  refine PMet.of mf_X8_figure (Nat.le_of_ble_eq_true rfl) ?_
  intro X h hr hml
  have hml : (xc X).maxLocals = 6 := hml
  have h : PXok X RX8 cX8_figure 3 0 0 := h
  have hr : PXr X (some .int) "figure" _ 0 0 := hr
  have hM0 := hM
  obtain ⟨f0, f1, f2, f3, f4, f5, f6, f7, f8, f9, f10, f11, f12, f13, f14, f15, f16, f17, f18, f19, f20, f21, f22, f23, f24, f25, f26, f27, g1, g2, g3, g4, g5, g6, g7, g8, g9, g10, g11, g12, g13, g14, g15, g16, g17, g18, g19, g20, g21, g22, g23, g24, g25, g26, g27⟩ := hM
  show PW X 0 [(0, .ref m), (1, .int 1)] [] sh I L R 0 0
  refine pw_aload_n h 0 d_X8_figure_0 rfl ?_
  refine pw_callV (As := []) h d_X8_figure_1 mf_X8_next mi_X8_next ml_RX8_170 ⟨by decide, by decide, by decide⟩ (by assumption) rfl rfl (Nat.le_of_ble_eq_true rfl) trivial (c_X8_next hM0 hT ha hT2 haT) ?_
  intro ret1 sh1 I1 L1 R1 hp1
  obtain ⟨e0, e1, eI, eL, eR⟩ := hp1
  subst e0
  have e1 := e1.symm
  have eR := eR.symm
  have eL := eL.symm
  subst e1
  subst eR
  subst eL
  refine ⟨rfl, ?_⟩
  have fN1 : frN m I I1 := by rw [eI]; exact frN_u (Or.inl rfl)
  have a1_ : I1 m 10 = nI (skB (I (m + 7)) a T) := by rw [eI]; exact u2_s
  have w1 : I1 m 11 = 0 := by rw [eI, u2_n2 (by decide)]; exact hw
  have T1 : I1 m 9 = nI T := by rw [eI, u2_n2 (by decide)]; exact hT
  have x1 : I1 (m + 7) = I (m + 7) := frN_f fN1 (by decide)
  have hsk := skB_le (f := I (m + 7)) haT
  clear eI
  refine pw_popI h d_X8_figure_4 ?_
  refine pw_aload_n h 0 d_X8_figure_5 rfl ?_
  refine pw_getI 8 h d_X8_figure_6 fd_RX8_163 (by assumption) rfl ?_
  refine pw_nmI (fun v2_9 e2_9 => ?_)
  refine pw_istore_n (lv' := [(2, .int v2_9), (0, .ref m), (1, .int 1)]) h d_X8_figure_9 rfl _ hml (by decide) rfl ?_
  refine pw_aload_n h 1 d_X8_figure_10 rfl ?_
  refine pw_iconst (x := 0) h d_X8_figure_11 (by decide) ?_
  refine pw_bipush (x := 12) h d_X8_figure_12 (by decide) ?_
  refine pw_callV (As := [.int _, .int _]) h d_X8_figure_14 mf_X8_number mi_X8_number ml_RX8_178 ⟨by decide, by decide, by decide⟩ (by assumption) rfl rfl (Nat.le_of_ble_eq_true rfl) trivial (c_X8_number hM0 T1 a1_ hT2 hsk.2 (wr := false) w1 (lo := 0) (hi := 12) rfl rfl (by decide)) ?_
  intro ret3 sh3 I3 L3 R3 hp3
  obtain ⟨e1, eR, eL, f3, x, ex, hx3⟩ := hp3
  have e1 := e1.symm
  have eR := eR.symm
  have eL := eL.symm
  subst e1
  subst eR
  subst eL
  subst ex
  have fN3 : frN m I I3 := frN_t fN1 f3
  have hfn := fig_n haT x1 hx3
  obtain ⟨p, hp, epx, hfg⟩ := hfn
  clear hx3
  refine ⟨rfl, ?_⟩
  refine pw_nmI (fun v3_17 e3_17 => ?_)
  refine pw_istore_n (lv' := [(3, .int v3_17), (2, .int v2_9), (0, .ref m), (1, .int 1)]) h d_X8_figure_17 rfl _ hml (by decide) rfl ?_
  refine pw_iload_n h 3 d_X8_figure_18 rfl ?_
  refine pw_if_ne 35 h d_X8_figure_19 (by decide) (fun c_19 => ?_) (fun c_19 => ?_)
  · skip
    refine pw_iconst (x := 0) h d_X8_figure_35 (by decide) ?_
    refine pw_nmI (fun v4_36 e4_36 => ?_)
    refine pw_istore (lv' := [(4, .int v4_36), (3, .int v3_17), (2, .int v2_9), (0, .ref m), (1, .int 1)]) h d_X8_figure_36 _ hml (by decide) rfl ?_
    refine pw_iconst (x := 0) h d_X8_figure_38 (by decide) ?_
    refine pw_nmI (fun v5_39 e5_39 => ?_)
    refine pw_istore (lv' := [(5, .int v5_39), (4, .int v4_36), (3, .int v3_17), (2, .int v2_9), (0, .ref m), (1, .int 1)]) h d_X8_figure_39 _ hml (by decide) rfl ?_
    have cut_41 : ∀ (N k : Nat) (fi px hq v : Int32), n < k + N → k ≤ n → fi = nI (skB (I (m + 7)) a T) → px = nI p → v = nI k → hq = bI (orB (fun k => decide (I (m + 8) k = nI p)) k) → PW X 41 [(0, .ref m), (1, .int 1), (2, .int fi), (3, .int px), (4, .int hq), (5, .int v)] [] sh I3 L R 0 0 := by
      intro N
      induction N with
      | zero => intros; omega
      | succ N ih =>
        intro k fi px hq v hN hk efi ep ev eh
        refine pw_iload h 5 d_X8_figure_41 rfl ?_
        refine pw_aload_n h 0 d_X8_figure_43 rfl ?_
        refine pw_getI 8 h d_X8_figure_44 fd_RX8_181 (by assumption) rfl ?_
        refine pw_icmp_ge 83 h d_X8_figure_47 (by decide) (fun c_47 => ?_) (fun c_47 => ?_)
        · skip
          have hge := k_ge ev (show I3 m 12 = nI n by rw [fN3 m 12 (Or.inr (by decide))]; exact h12) (by omega) (by omega) c_47
          have ek : k = n := by omega
          subst ek
          have hbq : orB (fun k => decide (I (m + 8) k = nI p)) k = true ↔ orB (fun k => decide (I (m + 8) k = nI p)) k = true := Iff.rfl
          refine pw_aload_n h 0 d_X8_figure_83 rfl ?_
          refine pw_getI 8 h d_X8_figure_84 fd_RX8_166 (by assumption) rfl ?_
          refine pw_if_ne 105 h d_X8_figure_87 (by decide) (fun c_87 => ?_) (fun c_87 => ?_)
          · skip
            refine pw_iload_n h 3 d_X8_figure_105 rfl ?_
            refine pw_iret h hr d_X8_figure_106 rfl (by decide) (by decide) ?_
            rw [ep]
            first
              | exact fig_end fN3 hp hfg hbq (fun q => absurd q c_87)
              | exact fig_has fN3 hp hfg hbq c_87 hb1 efi rfl
              | exact fig_end fN3 hp hfg hbq (fun q => hb0)
          · skip
            refine pw_iload h 4 d_X8_figure_90 rfl ?_
            refine pw_if_eq 105 h d_X8_figure_92 (by decide) (fun c_92 => ?_) (fun c_92 => ?_)
            · skip
              have hb0 : orB (fun k => decide (I (m + 8) k = nI p)) k = false := by cases e : orB (fun k => decide (I (m + 8) k = nI p)) k with | false => rfl | true => rw [eh, e] at c_92; exact absurd c_92 (by decide)
              refine pw_iload_n h 3 d_X8_figure_105 rfl ?_
              refine pw_iret h hr d_X8_figure_106 rfl (by decide) (by decide) ?_
              rw [ep]
              first
                | exact fig_end fN3 hp hfg hbq (fun q => absurd q c_87)
                | exact fig_has fN3 hp hfg hbq c_87 hb1 efi rfl
                | exact fig_end fN3 hp hfg hbq (fun q => hb0)
            · skip
              have hb1 : orB (fun k => decide (I (m + 8) k = nI p)) k = true := by cases e : orB (fun k => decide (I (m + 8) k = nI p)) k with | true => rfl | false => rw [eh, e] at c_92; exact absurd rfl c_92
              refine pw_aload_n h 0 d_X8_figure_95 rfl ?_
              refine pw_iconst (x := 1) h d_X8_figure_96 (by decide) ?_
              refine pw_putI 8 h d_X8_figure_97 fd_RX8_166 (by assumption) rfl rfl rfl rfl ?_
              refine pw_aload_n h 0 d_X8_figure_100 rfl ?_
              refine pw_iload_n h 2 d_X8_figure_101 rfl ?_
              refine pw_putI 8 h d_X8_figure_102 fd_RX8_163 (by assumption) rfl rfl rfl rfl ?_
              refine pw_iload_n h 3 d_X8_figure_105 rfl ?_
              refine pw_iret h hr d_X8_figure_106 rfl (by decide) (by decide) ?_
              rw [ep]
              first
                | exact fig_end fN3 hp hfg hbq (fun q => absurd q c_87)
                | exact fig_has fN3 hp hfg hbq c_87 hb1 efi rfl
                | exact fig_end fN3 hp hfg hbq (fun q => hb0)
        · skip
          have hlt := k_lt ev (show I3 m 12 = nI n by rw [fN3 m 12 (Or.inr (by decide))]; exact h12) (by omega) (by omega) c_47
          have hx : px_ix v 6 k := k_ix ev (by omega) (by decide)
          have ho := or_2 (b := true) (y := I3 (m + 8) k) (z := px) (g := (fun k => decide (I (m + 8) k = nI p))) eh (by rw [ep, fN3 _ _ (Or.inl (by omega))])
          refine pw_iload_n h 1 d_X8_figure_50 rfl ?_
          refine pw_if_eq 83 h d_X8_figure_51 (by decide) (fun c_51 => ?_) (fun c_51 => ?_)
          · exact absurd c_51 (by decide)
          · skip
            refine pw_iload h 4 d_X8_figure_54 rfl ?_
            refine pw_if_ne 70 h d_X8_figure_56 (by decide) (fun c_56 => ?_) (fun c_56 => ?_)
            · skip
              refine pw_iconst (x := 1) h d_X8_figure_70 (by decide) ?_
              refine pw_goto 75 h d_X8_figure_71 (by decide) ?_
              refine pw_nmI (fun v4_75 e4_75 => ?_)
              refine pw_istore (lv' := [(4, .int v4_75), (0, .ref m), (1, .int 1), (2, .int fi), (3, .int px), (5, .int v)]) h d_X8_figure_75 _ hml (by decide) rfl ?_
              obtain ⟨v5_77, e5_77⟩ : ∃ z : Int32, z = v + (1) := ⟨_, rfl⟩
              refine pw_iinc (lv' := [(5, .int v5_77), (4, .int v4_75), (0, .ref m), (1, .int 1), (2, .int fi), (3, .int px)]) v5_77 h d_X8_figure_77 5 rfl e5_77.symm _ hml (by decide) rfl ?_
              refine pw_goto 41 h d_X8_figure_80 (by decide) ?_
              refine PW.perm [2, 3, 4, 5, 1, 0] rfl ?_
              first
                | exact ih (k + 1) fi px v4_75 v5_77 (by omega) (by omega) efi ep (k_up e5_77 ev) (e4_75.trans (ho.1 c_56))
                | exact ih (k + 1) fi px v4_75 v5_77 (by omega) (by omega) efi ep (k_up e5_77 ev) (e4_75.trans (ho.2.1 c_56 c_67))
                | exact ih (k + 1) fi px v4_75 v5_77 (by omega) (by omega) efi ep (k_up e5_77 ev) (e4_75.trans (ho.2.2 c_56 c_67))
            · skip
              refine pw_aload_n h 0 d_X8_figure_59 rfl ?_
              refine pw_getR (j := (m + 8)) 8 h d_X8_figure_60 fd_RX8_35 (by assumption) rfl (by assumption) ?_
              refine pw_iload h 5 d_X8_figure_63 rfl ?_
              refine pw_iald h d_X8_figure_65 (by assumption) (by assumption) ?_
              refine pw_iload_n h 3 d_X8_figure_66 rfl ?_
              refine pw_icmp_ne 74 h d_X8_figure_67 (by decide) (fun c_67 => ?_) (fun c_67 => ?_)
              · skip
                refine pw_iconst (x := 0) h d_X8_figure_74 (by decide) ?_
                refine pw_nmI (fun v4_75 e4_75 => ?_)
                refine pw_istore (lv' := [(4, .int v4_75), (0, .ref m), (1, .int 1), (2, .int fi), (3, .int px), (5, .int v)]) h d_X8_figure_75 _ hml (by decide) rfl ?_
                obtain ⟨v5_77, e5_77⟩ : ∃ z : Int32, z = v + (1) := ⟨_, rfl⟩
                refine pw_iinc (lv' := [(5, .int v5_77), (4, .int v4_75), (0, .ref m), (1, .int 1), (2, .int fi), (3, .int px)]) v5_77 h d_X8_figure_77 5 rfl e5_77.symm _ hml (by decide) rfl ?_
                refine pw_goto 41 h d_X8_figure_80 (by decide) ?_
                refine PW.perm [2, 3, 4, 5, 1, 0] rfl ?_
                first
                  | exact ih (k + 1) fi px v4_75 v5_77 (by omega) (by omega) efi ep (k_up e5_77 ev) (e4_75.trans (ho.1 c_56))
                  | exact ih (k + 1) fi px v4_75 v5_77 (by omega) (by omega) efi ep (k_up e5_77 ev) (e4_75.trans (ho.2.1 c_56 c_67))
                  | exact ih (k + 1) fi px v4_75 v5_77 (by omega) (by omega) efi ep (k_up e5_77 ev) (e4_75.trans (ho.2.2 c_56 c_67))
              · skip
                refine pw_iconst (x := 1) h d_X8_figure_70 (by decide) ?_
                refine pw_goto 75 h d_X8_figure_71 (by decide) ?_
                refine pw_nmI (fun v4_75 e4_75 => ?_)
                refine pw_istore (lv' := [(4, .int v4_75), (0, .ref m), (1, .int 1), (2, .int fi), (3, .int px), (5, .int v)]) h d_X8_figure_75 _ hml (by decide) rfl ?_
                obtain ⟨v5_77, e5_77⟩ : ∃ z : Int32, z = v + (1) := ⟨_, rfl⟩
                refine pw_iinc (lv' := [(5, .int v5_77), (4, .int v4_75), (0, .ref m), (1, .int 1), (2, .int fi), (3, .int px)]) v5_77 h d_X8_figure_77 5 rfl e5_77.symm _ hml (by decide) rfl ?_
                refine pw_goto 41 h d_X8_figure_80 (by decide) ?_
                refine PW.perm [2, 3, 4, 5, 1, 0] rfl ?_
                first
                  | exact ih (k + 1) fi px v4_75 v5_77 (by omega) (by omega) efi ep (k_up e5_77 ev) (e4_75.trans (ho.1 c_56))
                  | exact ih (k + 1) fi px v4_75 v5_77 (by omega) (by omega) efi ep (k_up e5_77 ev) (e4_75.trans (ho.2.1 c_56 c_67))
                  | exact ih (k + 1) fi px v4_75 v5_77 (by omega) (by omega) efi ep (k_up e5_77 ev) (e4_75.trans (ho.2.2 c_56 c_67))
    refine PW.perm [4, 5, 3, 2, 1, 0] rfl ?_
    exact cut_41 (n + 1) 0 v2_9 v3_17 v4_36 v5_39 (by omega) (Nat.zero_le _) (e2_9.trans a1_) (e3_17.trans epx) e5_39 e4_36
  · exact absurd c_19 (by decide)
