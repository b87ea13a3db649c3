set_option maxHeartbeats 4000000 in
set_option maxRecDepth 100000 in
theorem c_X8_goes {sh : Sh} {I : IM} {L : LM} {R : RM} {m n : Nat} {pl : Nat → Nat} {hg w : Nat → Rat} {F H : Rat} (hM : ModF sh R m) (hB : okB pl hg w F H n) (hS : SolM I m n pl hg w F) : PMet M_X8_goes [.ref m] sh I L R (golP sh I L R m n pl hg w F) := by
  refine PMet.of mf_X8_goes (Nat.le_of_ble_eq_true rfl) ?_
  intro X h hr hml
  have hml : (xc X).maxLocals = 4 := hml
  have h : PXok X RX8 cX8_goes 5 0 0 := h
  have hr : PXr X none "goes" _ 0 0 := hr
  have hM0 := hM
  obtain ⟨f0, f1, f2, f3, f4, f5, f6, f7, f8, f9, f10, f11, f12, f13, f14, f15, f16, f17, f18, f19, f20, f21, f22, f23, f24, f25, f26, f27, g1, g2, g3, g4, g5, g6, g7, g8, g9, g10, g11, g12, g13, g14, g15, g16, g17, g18, g19, g20, g21, g22, g23, g24, g25, g26, g27⟩ := hM
  have hP := hB.1
  have h5 := hP.1
  have hmany := hS.1
  have em1 : I m 19 - 1 = nI (n + 1) := by rw [hS.1]; exact k_dn1 (i := n + 2) rfl (by omega)
  show PW X 0 [(0, .ref m)] [] sh I L R 0 0
  refine pw_aload_n h 0 d_X8_goes_0 rfl ?_
  refine pw_callV (As := []) h d_X8_goes_1 mf_X8_bends mi_X8_bends ml_RX8_238 ⟨by decide, by decide, by decide⟩ (by assumption) rfl rfl (Nat.le_of_ble_eq_true rfl) trivial (c_X8_bends hM0 hP hS) ?_
  intro ret1 sh1 I1 L1 R1_ hp1
  obtain ⟨e0, e1, eR, eI, fb1, hd1, hm1⟩ := hp1
  subst e0
  have e1 := e1.symm
  have eR := eR.symm
  have eI := eI.symm
  subst e1
  subst eR
  subst eI
  refine ⟨rfl, ?_⟩
  have hgo1 := goI_0 fb1 hd1 hm1
  refine pw_iconst (x := 0) h d_X8_goes_4 (by decide) ?_
  refine pw_nmI (fun v1_5 e1_5 => ?_)
  refine pw_istore_n (lv' := [(1, .int v1_5), (0, .ref m)]) h d_X8_goes_5 rfl _ hml (by decide) rfl ?_
  have cut_6 : ∀ (N i : Nat) (v : Int32) (L2 : LM), n + 2 < i + N → i ≤ n + 2 → v = nI i → goI L L2 m n pl hg w F i → PW X 6 [(0, .ref m), (1, .int v)] [] sh I L2 R 0 0 := by
    intro N
    induction N with
    | zero => intros; omega
    | succ N ih =>
      intro i v L2 hN hi ev hgo2
      refine pw_iload_n h 1 d_X8_goes_6 rfl ?_
      refine pw_aload_n h 0 d_X8_goes_7 rfl ?_
      refine pw_getI 8 h d_X8_goes_8 fd_RX8_215 (by assumption) rfl ?_
      refine pw_icmp_ge 163 h d_X8_goes_11 (by decide) (fun c_11 => ?_) (fun c_11 => ?_)
      · skip
        have hge : n + 2 ≤ i := k_ge ev hmany (by omega) (by omega) c_11
        have e9 : i = n + 2 := by omega
        subst e9
        refine pw_vret h hr d_X8_goes_163 (by decide) (by decide) ?_
        exact ⟨rfl, rfl, rfl, rfl, hgo2⟩
      · skip
        have hin : i < n + 2 := k_lt ev hmany (by omega) (by omega) c_11
        have hx7 : px_ix v 7 i := k_ix ev (by omega) (by decide)
        have bi := isP_le hP hin
        have xi := hS.2.1 i hin
        have hxw : px_ix (I (m + 11) i) 13 (pl i) := k_ix xi (by omega) (by decide)
        refine pw_aload_n h 0 d_X8_goes_14 rfl ?_
        refine pw_aload_n h 0 d_X8_goes_15 rfl ?_
        refine pw_getR (j := (m + 13)) 8 h d_X8_goes_16 fd_RX8_54 (by assumption) rfl (by assumption) ?_
        refine pw_aload_n h 0 d_X8_goes_19 rfl ?_
        refine pw_getR (j := (m + 11)) 8 h d_X8_goes_20 fd_RX8_48 (by assumption) rfl (by assumption) ?_
        refine pw_iload_n h 1 d_X8_goes_23 rfl ?_
        refine pw_iald h d_X8_goes_24 (by assumption) (by assumption) ?_
        refine pw_iald h d_X8_goes_25 (by assumption) (by assumption) ?_
        refine pw_i2l h d_X8_goes_26 ?_
        refine pw_lconst (x := 1) h d_X8_goes_27 (by decide) ?_
        have hk := mk_PF (L := L2) (m := m) (D := dnN pl n i) (a := (I (m + 13) (pl i)).toInt64) (b := 1) (q := w (pl i)) (by rw [Int32.toInt_toInt64]; have := Int32.le_toInt (I (m + 13) (pl i)); omega) rfl (by rw [Int32.toInt_toInt64]; exact hS.2.2.2.1 (pl i) (by omega))
        refine pw_callV (As := [.long _, .long _]) h d_X8_goes_28 mf_X8_makes mi_X8_makes ml_RX8_205 ⟨by decide, by decide, by decide⟩ (by assumption) rfl rfl (Nat.le_of_ble_eq_true rfl) trivial (c_X8_makes hM0 _ _ hk.1) ?_
        intro ret3 sh3 I3 L3 R3_ hp3
        obtain ⟨e0, e1, eI, eL, eR⟩ := hp3
        subst e0
        have e1 := e1.symm
        have eR := eR.symm
        have eI := eI.symm
        subst e1
        subst eR
        subst eI
        refine ⟨rfl, ?_⟩
        have f30 : frF m L2 L3 := by rw [eL]; exact mkL_fr
        have hq30 : PF L3 m (dnN pl n i) (w (pl i) + sQ (outF pl w n i) 0) := by rw [eL]; show PF _ m _ (w (pl i) + 0); rw [Rat.add_zero]; exact hk.2
        have hgo30 := goI_F f30 hgo2
        clear eL
        refine pw_iconst (x := 0) h d_X8_goes_31 (by decide) ?_
        refine pw_nmI (fun v2_32 e2_32 => ?_)
        refine pw_istore_n (lv' := [(2, .int v2_32), (0, .ref m), (1, .int v)]) h d_X8_goes_32 rfl _ hml (by decide) rfl ?_
        have cut_33 : ∀ (N p : Nat) (u : Int32) (L3 : LM), 13 < p + N → p ≤ 13 → u = nI p → goI L L3 m n pl hg w F i → PF L3 m (dnN pl n i) (w (pl i) + sQ (outF pl w n i) p) → PW X 33 [(0, .ref m), (1, .int v), (2, .int u)] [] sh I L3 R 0 0 := by
          intro N
          induction N with
          | zero => intros; omega
          | succ N ihp =>
            intro p u L3 hN hp eu hgo3 hq3
            refine pw_iload_n h 2 d_X8_goes_33 rfl ?_
            refine pw_bipush (x := 13) h d_X8_goes_34 (by decide) ?_
            refine pw_icmp_ge 105 h d_X8_goes_36 (by decide) (fun c_36 => ?_) (fun c_36 => ?_)
            · skip
              have hge13 := k_ge eu (n := 13) rfl (by omega) (by omega) c_36
              have e13 : p = 13 := by omega
              subst e13
              refine pw_iload_n h 1 d_X8_goes_105 rfl ?_
              refine pw_aload_n h 0 d_X8_goes_106 rfl ?_
              refine pw_getI 8 h d_X8_goes_107 fd_RX8_215 (by assumption) rfl ?_
              refine pw_iconst (x := 1) h d_X8_goes_110 (by decide) ?_
              refine pw_isub h d_X8_goes_111 ?_
              refine pw_icmp_ge 122 h d_X8_goes_112 (by decide) (fun c_112 => ?_) (fun c_112 => ?_)
              · skip
                have hge : n + 1 ≤ i := k_ge ev em1 (by omega) (by omega) c_112
                refine pw_iload_n h 1 d_X8_goes_122 rfl ?_
                refine pw_if_le 137 h d_X8_goes_123 (by decide) (fun c_123 => ?_) (fun c_123 => ?_)
                · exact absurd (k_0 ev (by omega) c_123) (by omega)
                · skip
                  have hi1 : 0 < i := k_p ev (by omega) c_123
                  refine pw_aload_n h 0 d_X8_goes_126 rfl ?_
                  refine pw_iload_n h 1 d_X8_goes_127 rfl ?_
                  refine pw_iconst (x := 1) h d_X8_goes_128 (by decide) ?_
                  refine pw_isub h d_X8_goes_129 ?_
                  refine pw_iconst (x := 0) h d_X8_goes_130 (by decide) ?_
                  refine pw_ldc2 h d_X8_goes_131 ck_RX8_245 ?_
                  refine pw_callV (As := [.int _, .int _, .long _]) h d_X8_goes_134 mf_X8_pushes mi_X8_pushes ml_RX8_241 ⟨by decide, by decide, by decide⟩ (by assumption) rfl rfl (Nat.le_of_ble_eq_true rfl) trivial (c_X8_pushes0 (i := i) hM0 hB hS hgo3.2.2.1 hgo3.2.1 (k_dn1 ev hi1) (by omega) (Or.inr (by omega)) hq3 (inQ_le (out_in hB.2.1 (Nat.le_refl 13) bi) (by grind))) ?_
                  intro ret5 sh5 I5 L5 R5_ hp5
                  obtain ⟨e0, e1, eR, eI, f5, g5⟩ := hp5
                  subst e0
                  have e1 := e1.symm
                  have eR := eR.symm
                  have eI := eI.symm
                  subst e1
                  subst eR
                  subst eI
                  refine ⟨rfl, ?_⟩
                  have hfin : RF (L5 m 17) (L5 m 18) (ldP pl hg w F n i) := go_q3 hP (by omega) g5.1
                  have hG := goI_F f5 hgo3
                  refine pw_aload_n h 0 d_X8_goes_137 rfl ?_
                  refine pw_getR (j := (m + 14)) 8 h d_X8_goes_138 fd_RX8_57 (by assumption) rfl (by assumption) ?_
                  refine pw_iload_n h 1 d_X8_goes_141 rfl ?_
                  refine pw_aload_n h 0 d_X8_goes_142 rfl ?_
                  refine pw_getL 8 h d_X8_goes_143 fd_RX8_202 (by assumption) rfl ?_
                  refine pw_last h d_X8_goes_146 (by assumption) (by assumption) ?_
                  refine pw_aload_n h 0 d_X8_goes_147 rfl ?_
                  refine pw_getR (j := (m + 15)) 8 h d_X8_goes_148 fd_RX8_61 (by assumption) rfl (by assumption) ?_
                  refine pw_iload_n h 1 d_X8_goes_151 rfl ?_
                  refine pw_aload_n h 0 d_X8_goes_152 rfl ?_
                  refine pw_getL 8 h d_X8_goes_153 fd_RX8_44 (by assumption) rfl ?_
                  refine pw_last h d_X8_goes_156 (by assumption) (by assumption) ?_
                  obtain ⟨v1_157, e1_157⟩ : ∃ z : Int32, z = v + (1) := ⟨_, rfl⟩
                  refine pw_iinc (lv' := [(1, .int v1_157), (0, .ref m), (2, .int u)]) v1_157 h d_X8_goes_157 1 rfl e1_157.symm _ hml (by decide) rfl ?_
                  refine pw_goto 6 h d_X8_goes_160 (by decide) ?_
                  refine PW.perm [1, 0] rfl ?_
                  exact ih (i + 1) _ _ (by omega) (by omega) (k_up e1_157 ev) (goI_s hG hfin)
              · skip
                have hlt1 : i < n + 1 := k_lt ev em1 (by omega) (by omega) c_112
                refine pw_aload_n h 0 d_X8_goes_115 rfl ?_
                refine pw_iload_n h 1 d_X8_goes_116 rfl ?_
                refine pw_iconst (x := 1) h d_X8_goes_117 (by decide) ?_
                refine pw_lconst (x := 1) h d_X8_goes_118 (by decide) ?_
                refine pw_callV (As := [.int _, .int _, .long _]) h d_X8_goes_119 mf_X8_pushes mi_X8_pushes ml_RX8_241 ⟨by decide, by decide, by decide⟩ (by assumption) rfl rfl (Nat.le_of_ble_eq_true rfl) trivial (c_X8_pushes1 (i := i) hM0 hB hS hgo3.2.2.1 hgo3.2.1 ev (by omega) (Or.inl rfl) hq3 (inQ_le (out_in hB.2.1 (Nat.le_refl 13) bi) (by grind))) ?_
                intro ret4 sh4 I4 L4 R4_ hp4
                obtain ⟨e0, e1, eR, eI, f4, g4⟩ := hp4
                subst e0
                have e1 := e1.symm
                have eR := eR.symm
                have eI := eI.symm
                subst e1
                subst eR
                subst eI
                refine ⟨rfl, ?_⟩
                refine pw_iload_n h 1 d_X8_goes_122 rfl ?_
                refine pw_if_le 137 h d_X8_goes_123 (by decide) (fun c_123 => ?_) (fun c_123 => ?_)
                · skip
                  have e0 : i = 0 := k_0 ev (by omega) c_123
                  have hfin : RF (L4 m 17) (L4 m 18) (ldP pl hg w F n i) := by subst e0; rw [← go_1 hP]; exact g4.1
                  have hG := goI_F f4 hgo3
                  refine pw_aload_n h 0 d_X8_goes_137 rfl ?_
                  refine pw_getR (j := (m + 14)) 8 h d_X8_goes_138 fd_RX8_57 (by assumption) rfl (by assumption) ?_
                  refine pw_iload_n h 1 d_X8_goes_141 rfl ?_
                  refine pw_aload_n h 0 d_X8_goes_142 rfl ?_
                  refine pw_getL 8 h d_X8_goes_143 fd_RX8_202 (by assumption) rfl ?_
                  refine pw_last h d_X8_goes_146 (by assumption) (by assumption) ?_
                  refine pw_aload_n h 0 d_X8_goes_147 rfl ?_
                  refine pw_getR (j := (m + 15)) 8 h d_X8_goes_148 fd_RX8_61 (by assumption) rfl (by assumption) ?_
                  refine pw_iload_n h 1 d_X8_goes_151 rfl ?_
                  refine pw_aload_n h 0 d_X8_goes_152 rfl ?_
                  refine pw_getL 8 h d_X8_goes_153 fd_RX8_44 (by assumption) rfl ?_
                  refine pw_last h d_X8_goes_156 (by assumption) (by assumption) ?_
                  obtain ⟨v1_157, e1_157⟩ : ∃ z : Int32, z = v + (1) := ⟨_, rfl⟩
                  refine pw_iinc (lv' := [(1, .int v1_157), (0, .ref m), (2, .int u)]) v1_157 h d_X8_goes_157 1 rfl e1_157.symm _ hml (by decide) rfl ?_
                  refine pw_goto 6 h d_X8_goes_160 (by decide) ?_
                  refine PW.perm [1, 0] rfl ?_
                  exact ih (i + 1) _ _ (by omega) (by omega) (k_up e1_157 ev) (goI_s hG hfin)
                · skip
                  have hi1 : 0 < i := k_p ev (by omega) c_123
                  refine pw_aload_n h 0 d_X8_goes_126 rfl ?_
                  refine pw_iload_n h 1 d_X8_goes_127 rfl ?_
                  refine pw_iconst (x := 1) h d_X8_goes_128 (by decide) ?_
                  refine pw_isub h d_X8_goes_129 ?_
                  refine pw_iconst (x := 0) h d_X8_goes_130 (by decide) ?_
                  refine pw_ldc2 h d_X8_goes_131 ck_RX8_245 ?_
                  refine pw_callV (As := [.int _, .int _, .long _]) h d_X8_goes_134 mf_X8_pushes mi_X8_pushes ml_RX8_241 ⟨by decide, by decide, by decide⟩ (by assumption) rfl rfl (Nat.le_of_ble_eq_true rfl) trivial (c_X8_pushes0 (i := i) hM0 hB hS (goI_F f4 hgo3).2.2.1 (goI_F f4 hgo3).2.1 (k_dn1 ev hi1) (by omega) (Or.inr (by omega)) g4 (goB_in hB (by omega) (out_in hB.2.1 (Nat.le_refl 13) bi))) ?_
                  intro ret5 sh5 I5 L5 R5_ hp5
                  obtain ⟨e0, e1, eR, eI, f5, g5⟩ := hp5
                  subst e0
                  have e1 := e1.symm
                  have eR := eR.symm
                  have eI := eI.symm
                  subst e1
                  subst eR
                  subst eI
                  refine ⟨rfl, ?_⟩
                  have hfin : RF (L5 m 17) (L5 m 18) (ldP pl hg w F n i) := go_q2 hP hi1 (by omega) g5.1
                  have hG := goI_F f5 (goI_F f4 hgo3)
                  refine pw_aload_n h 0 d_X8_goes_137 rfl ?_
                  refine pw_getR (j := (m + 14)) 8 h d_X8_goes_138 fd_RX8_57 (by assumption) rfl (by assumption) ?_
                  refine pw_iload_n h 1 d_X8_goes_141 rfl ?_
                  refine pw_aload_n h 0 d_X8_goes_142 rfl ?_
                  refine pw_getL 8 h d_X8_goes_143 fd_RX8_202 (by assumption) rfl ?_
                  refine pw_last h d_X8_goes_146 (by assumption) (by assumption) ?_
                  refine pw_aload_n h 0 d_X8_goes_147 rfl ?_
                  refine pw_getR (j := (m + 15)) 8 h d_X8_goes_148 fd_RX8_61 (by assumption) rfl (by assumption) ?_
                  refine pw_iload_n h 1 d_X8_goes_151 rfl ?_
                  refine pw_aload_n h 0 d_X8_goes_152 rfl ?_
                  refine pw_getL 8 h d_X8_goes_153 fd_RX8_44 (by assumption) rfl ?_
                  refine pw_last h d_X8_goes_156 (by assumption) (by assumption) ?_
                  obtain ⟨v1_157, e1_157⟩ : ∃ z : Int32, z = v + (1) := ⟨_, rfl⟩
                  refine pw_iinc (lv' := [(1, .int v1_157), (0, .ref m), (2, .int u)]) v1_157 h d_X8_goes_157 1 rfl e1_157.symm _ hml (by decide) rfl ?_
                  refine pw_goto 6 h d_X8_goes_160 (by decide) ?_
                  refine PW.perm [1, 0] rfl ?_
                  exact ih (i + 1) _ _ (by omega) (by omega) (k_up e1_157 ev) (goI_s hG hfin)
            · skip
              have hp13 : p < 13 := k_lt eu (n := 13) rfl (by omega) (by omega) c_36
              have hxu : px_ix u 13 p := k_ix eu (by omega) (by decide)
              have x0 := hS.2.1 0 (by omega)
              refine pw_iload_n h 1 d_X8_goes_39 rfl ?_
              refine pw_if_ne 53 h d_X8_goes_40 (by decide) (fun c_40 => ?_) (fun c_40 => ?_)
              · skip
                have q40 : ¬ i = 0 := fun q => c_40 (by rw [ev, q]; rfl)
                refine pw_iload_n h 1 d_X8_goes_53 rfl ?_
                refine pw_aload_n h 0 d_X8_goes_54 rfl ?_
                refine pw_getI 8 h d_X8_goes_55 fd_RX8_215 (by assumption) rfl ?_
                refine pw_iconst (x := 1) h d_X8_goes_58 (by decide) ?_
                refine pw_isub h d_X8_goes_59 ?_
                refine pw_icmp_ne 77 h d_X8_goes_60 (by decide) (fun c_60 => ?_) (fun c_60 => ?_)
                · skip
                  have q60 : ¬ i = n + 1 := fun q => c_60 (by rw [em1, ev, q])
                  refine pw_iconst (x := 0) h d_X8_goes_77 (by decide) ?_
                  refine pw_nmI (fun v3_78 e3_78 => ?_)
                  refine pw_istore_n (lv' := [(3, .int v3_78), (0, .ref m), (1, .int v), (2, .int u)]) h d_X8_goes_78 rfl _ hml (by decide) rfl ?_
                  refine pw_aload_n h 1 d_X8_goes_79 rfl ?_
                  refine pw_iload_n h 0 d_X8_goes_80 rfl ?_
                  refine pw_if_eq 94 h d_X8_goes_81 (by decide) (fun c_81 => ?_) (fun c_81 => ?_)
                  · skip
                    refine pw_lconst (x := 0) h d_X8_goes_94 (by decide) ?_
                    refine pw_lconst (x := 1) h d_X8_goes_95 (by decide) ?_
                    have hg_ := ad_PF (L := L3) (D := dnN pl n i) (a := 0) (b := 1) (t := outF pl w n i p) hq3 (by decide) (by unfold outF; rw [if_neg (by omega)]; exact (Rat.zero_mul _).symm) (dn_ok hP i).1 (dn_ok hP i).2 (Nat.one_dvd _) (inQ_le (out_in (p := p + 1) (i := i) (n := n) hB.2.1 (by omega) bi) (by grind) |> fun q => by rw [Rat.add_assoc]; exact q)
                    refine pw_callV (As := [.long _, .long _]) h d_X8_goes_96 mf_X8_adds mi_X8_adds ml_RX8_235 ⟨by decide, by decide, by decide⟩ (by assumption) rfl rfl (Nat.le_of_ble_eq_true rfl) trivial (c_X8_adds hM0 _ _ hg_.1 hg_.2.1) ?_
                    intro ret6 sh6 I6 L6 R6_ hp6
                    obtain ⟨e0, e1, eI, eL, eR⟩ := hp6
                    subst e0
                    have e1 := e1.symm
                    have eR := eR.symm
                    have eI := eI.symm
                    subst e1
                    subst eR
                    subst eI
                    refine ⟨rfl, ?_⟩
                    have f6 : frF m L3 L6 := by rw [eL]; exact adL_fr
                    have hq6 : PF L6 m (dnN pl n i) (w (pl i) + sQ (outF pl w n i) (p + 1)) := by rw [eL]; show PF _ m _ (w (pl i) + (sQ (outF pl w n i) p + outF pl w n i p)); rw [← Rat.add_assoc]; exact hg_.2.2
                    clear eL
                    obtain ⟨v2_99, e2_99⟩ : ∃ z : Int32, z = u + (1) := ⟨_, rfl⟩
                    refine pw_iinc (lv' := [(2, .int v2_99), (3, .int v3_78), (0, .ref m), (1, .int v)]) v2_99 h d_X8_goes_99 3 rfl e2_99.symm _ hml (by decide) rfl ?_
                    refine pw_goto 33 h d_X8_goes_102 (by decide) ?_
                    refine PW.perm [2, 3, 0] rfl ?_
                    exact ihp (p + 1) _ _ (by omega) (by omega) (k_up e2_99 eu) (goI_F f6 hgo3) hq6
                  · exact absurd e3_78 c_81
                · skip
                  have q60 : i = n + 1 := (nI_eq (by omega) (by omega)).mp (ev.symm.trans (c_60.trans em1))
                  refine pw_iload_n h 2 d_X8_goes_63 rfl ?_
                  refine pw_aload_n h 0 d_X8_goes_64 rfl ?_
                  refine pw_getR (j := (m + 11)) 8 h d_X8_goes_65 fd_RX8_48 (by assumption) rfl (by assumption) ?_
                  refine pw_iload_n h 1 d_X8_goes_68 rfl ?_
                  refine pw_iald h d_X8_goes_69 (by assumption) (by assumption) ?_
                  refine pw_icmp_le 77 h d_X8_goes_70 (by decide) (fun c_70 => ?_) (fun c_70 => ?_)
                  · skip
                    have q70 : ¬ pl i < p := by have := k_le2 eu xi (by omega) (by omega) c_70; omega
                    refine pw_iconst (x := 0) h d_X8_goes_77 (by decide) ?_
                    refine pw_nmI (fun v3_78 e3_78 => ?_)
                    refine pw_istore_n (lv' := [(3, .int v3_78), (0, .ref m), (1, .int v), (2, .int u)]) h d_X8_goes_78 rfl _ hml (by decide) rfl ?_
                    refine pw_aload_n h 1 d_X8_goes_79 rfl ?_
                    refine pw_iload_n h 0 d_X8_goes_80 rfl ?_
                    refine pw_if_eq 94 h d_X8_goes_81 (by decide) (fun c_81 => ?_) (fun c_81 => ?_)
                    · skip
                      refine pw_lconst (x := 0) h d_X8_goes_94 (by decide) ?_
                      refine pw_lconst (x := 1) h d_X8_goes_95 (by decide) ?_
                      have hg_ := ad_PF (L := L3) (D := dnN pl n i) (a := 0) (b := 1) (t := outF pl w n i p) hq3 (by decide) (by unfold outF; rw [if_neg (by omega)]; exact (Rat.zero_mul _).symm) (dn_ok hP i).1 (dn_ok hP i).2 (Nat.one_dvd _) (inQ_le (out_in (p := p + 1) (i := i) (n := n) hB.2.1 (by omega) bi) (by grind) |> fun q => by rw [Rat.add_assoc]; exact q)
                      refine pw_callV (As := [.long _, .long _]) h d_X8_goes_96 mf_X8_adds mi_X8_adds ml_RX8_235 ⟨by decide, by decide, by decide⟩ (by assumption) rfl rfl (Nat.le_of_ble_eq_true rfl) trivial (c_X8_adds hM0 _ _ hg_.1 hg_.2.1) ?_
                      intro ret6 sh6 I6 L6 R6_ hp6
                      obtain ⟨e0, e1, eI, eL, eR⟩ := hp6
                      subst e0
                      have e1 := e1.symm
                      have eR := eR.symm
                      have eI := eI.symm
                      subst e1
                      subst eR
                      subst eI
                      refine ⟨rfl, ?_⟩
                      have f6 : frF m L3 L6 := by rw [eL]; exact adL_fr
                      have hq6 : PF L6 m (dnN pl n i) (w (pl i) + sQ (outF pl w n i) (p + 1)) := by rw [eL]; show PF _ m _ (w (pl i) + (sQ (outF pl w n i) p + outF pl w n i p)); rw [← Rat.add_assoc]; exact hg_.2.2
                      clear eL
                      obtain ⟨v2_99, e2_99⟩ : ∃ z : Int32, z = u + (1) := ⟨_, rfl⟩
                      refine pw_iinc (lv' := [(2, .int v2_99), (3, .int v3_78), (0, .ref m), (1, .int v)]) v2_99 h d_X8_goes_99 3 rfl e2_99.symm _ hml (by decide) rfl ?_
                      refine pw_goto 33 h d_X8_goes_102 (by decide) ?_
                      refine PW.perm [2, 3, 0] rfl ?_
                      exact ihp (p + 1) _ _ (by omega) (by omega) (k_up e2_99 eu) (goI_F f6 hgo3) hq6
                    · exact absurd e3_78 c_81
                  · skip
                    have q70 : pl i < p := k_gt2 eu xi (by omega) (by omega) c_70
                    refine pw_iconst (x := 1) h d_X8_goes_73 (by decide) ?_
                    refine pw_goto 78 h d_X8_goes_74 (by decide) ?_
                    refine pw_nmI (fun v3_78 e3_78 => ?_)
                    refine pw_istore_n (lv' := [(3, .int v3_78), (0, .ref m), (1, .int v), (2, .int u)]) h d_X8_goes_78 rfl _ hml (by decide) rfl ?_
                    refine pw_aload_n h 1 d_X8_goes_79 rfl ?_
                    refine pw_iload_n h 0 d_X8_goes_80 rfl ?_
                    refine pw_if_eq 94 h d_X8_goes_81 (by decide) (fun c_81 => ?_) (fun c_81 => ?_)
                    · exact absurd (e3_78.symm.trans c_81) (by decide)
                    · skip
                      refine pw_aload_n h 1 d_X8_goes_84 rfl ?_
                      refine pw_getR (j := (m + 13)) 8 h d_X8_goes_85 fd_RX8_54 (by assumption) rfl (by assumption) ?_
                      refine pw_iload_n h 3 d_X8_goes_88 rfl ?_
                      refine pw_iald h d_X8_goes_89 (by assumption) (by assumption) ?_
                      refine pw_i2l h d_X8_goes_90 ?_
                      refine pw_goto 95 h d_X8_goes_91 (by decide) ?_
                      refine pw_lconst (x := 1) h d_X8_goes_95 (by decide) ?_
                      have hg_ := ad_PF (L := L3) (D := dnN pl n i) (a := (I (m + 13) p).toInt64) (b := 1) (t := outF pl w n i p) hq3 (by decide) (by rw [Int32.toInt_toInt64, hS.2.2.2.1 p (by omega)]; unfold outF; rw [if_pos (by omega)]; exact (Rat.mul_one _).symm) (dn_ok hP i).1 (dn_ok hP i).2 (Nat.one_dvd _) (inQ_le (out_in (p := p + 1) (i := i) (n := n) hB.2.1 (by omega) bi) (by grind) |> fun q => by rw [Rat.add_assoc]; exact q)
                      refine pw_callV (As := [.long _, .long _]) h d_X8_goes_96 mf_X8_adds mi_X8_adds ml_RX8_235 ⟨by decide, by decide, by decide⟩ (by assumption) rfl rfl (Nat.le_of_ble_eq_true rfl) trivial (c_X8_adds hM0 _ _ hg_.1 hg_.2.1) ?_
                      intro ret6 sh6 I6 L6 R6_ hp6
                      obtain ⟨e0, e1, eI, eL, eR⟩ := hp6
                      subst e0
                      have e1 := e1.symm
                      have eR := eR.symm
                      have eI := eI.symm
                      subst e1
                      subst eR
                      subst eI
                      refine ⟨rfl, ?_⟩
                      have f6 : frF m L3 L6 := by rw [eL]; exact adL_fr
                      have hq6 : PF L6 m (dnN pl n i) (w (pl i) + sQ (outF pl w n i) (p + 1)) := by rw [eL]; show PF _ m _ (w (pl i) + (sQ (outF pl w n i) p + outF pl w n i p)); rw [← Rat.add_assoc]; exact hg_.2.2
                      clear eL
                      obtain ⟨v2_99, e2_99⟩ : ∃ z : Int32, z = u + (1) := ⟨_, rfl⟩
                      refine pw_iinc (lv' := [(2, .int v2_99), (3, .int v3_78), (0, .ref m), (1, .int v)]) v2_99 h d_X8_goes_99 3 rfl e2_99.symm _ hml (by decide) rfl ?_
                      refine pw_goto 33 h d_X8_goes_102 (by decide) ?_
                      refine PW.perm [2, 3, 0] rfl ?_
                      exact ihp (p + 1) _ _ (by omega) (by omega) (k_up e2_99 eu) (goI_F f6 hgo3) hq6
              · skip
                have q40 : i = 0 := (nI_eq (by omega) (by decide)).mp (ev.symm.trans c_40)
                refine pw_iload_n h 2 d_X8_goes_43 rfl ?_
                refine pw_aload_n h 0 d_X8_goes_44 rfl ?_
                refine pw_getR (j := (m + 11)) 8 h d_X8_goes_45 fd_RX8_48 (by assumption) rfl (by assumption) ?_
                refine pw_iconst (x := 0) h d_X8_goes_48 (by decide) ?_
                refine pw_iald (j := 0) h d_X8_goes_49 (by assumption) (px_ix_nI (j := 0) (by decide) (by decide)) ?_
                refine pw_icmp_lt 73 h d_X8_goes_50 (by decide) (fun c_50 => ?_) (fun c_50 => ?_)
                · skip
                  have q50 : p < pl 0 := k_lt2 eu x0 (by omega) (by have := isP_le hP (show 0 < n + 2 by omega); omega) c_50
                  refine pw_iconst (x := 1) h d_X8_goes_73 (by decide) ?_
                  refine pw_goto 78 h d_X8_goes_74 (by decide) ?_
                  refine pw_nmI (fun v3_78 e3_78 => ?_)
                  refine pw_istore_n (lv' := [(3, .int v3_78), (0, .ref m), (1, .int v), (2, .int u)]) h d_X8_goes_78 rfl _ hml (by decide) rfl ?_
                  refine pw_aload_n h 1 d_X8_goes_79 rfl ?_
                  refine pw_iload_n h 0 d_X8_goes_80 rfl ?_
                  refine pw_if_eq 94 h d_X8_goes_81 (by decide) (fun c_81 => ?_) (fun c_81 => ?_)
                  · exact absurd (e3_78.symm.trans c_81) (by decide)
                  · skip
                    refine pw_aload_n h 1 d_X8_goes_84 rfl ?_
                    refine pw_getR (j := (m + 13)) 8 h d_X8_goes_85 fd_RX8_54 (by assumption) rfl (by assumption) ?_
                    refine pw_iload_n h 3 d_X8_goes_88 rfl ?_
                    refine pw_iald h d_X8_goes_89 (by assumption) (by assumption) ?_
                    refine pw_i2l h d_X8_goes_90 ?_
                    refine pw_goto 95 h d_X8_goes_91 (by decide) ?_
                    refine pw_lconst (x := 1) h d_X8_goes_95 (by decide) ?_
                    have hg_ := ad_PF (L := L3) (D := dnN pl n i) (a := (I (m + 13) p).toInt64) (b := 1) (t := outF pl w n i p) hq3 (by decide) (by rw [Int32.toInt_toInt64, hS.2.2.2.1 p (by omega)]; unfold outF; rw [if_pos (by omega)]; exact (Rat.mul_one _).symm) (dn_ok hP i).1 (dn_ok hP i).2 (Nat.one_dvd _) (inQ_le (out_in (p := p + 1) (i := i) (n := n) hB.2.1 (by omega) bi) (by grind) |> fun q => by rw [Rat.add_assoc]; exact q)
                    refine pw_callV (As := [.long _, .long _]) h d_X8_goes_96 mf_X8_adds mi_X8_adds ml_RX8_235 ⟨by decide, by decide, by decide⟩ (by assumption) rfl rfl (Nat.le_of_ble_eq_true rfl) trivial (c_X8_adds hM0 _ _ hg_.1 hg_.2.1) ?_
                    intro ret6 sh6 I6 L6 R6_ hp6
                    obtain ⟨e0, e1, eI, eL, eR⟩ := hp6
                    subst e0
                    have e1 := e1.symm
                    have eR := eR.symm
                    have eI := eI.symm
                    subst e1
                    subst eR
                    subst eI
                    refine ⟨rfl, ?_⟩
                    have f6 : frF m L3 L6 := by rw [eL]; exact adL_fr
                    have hq6 : PF L6 m (dnN pl n i) (w (pl i) + sQ (outF pl w n i) (p + 1)) := by rw [eL]; show PF _ m _ (w (pl i) + (sQ (outF pl w n i) p + outF pl w n i p)); rw [← Rat.add_assoc]; exact hg_.2.2
                    clear eL
                    obtain ⟨v2_99, e2_99⟩ : ∃ z : Int32, z = u + (1) := ⟨_, rfl⟩
                    refine pw_iinc (lv' := [(2, .int v2_99), (3, .int v3_78), (0, .ref m), (1, .int v)]) v2_99 h d_X8_goes_99 3 rfl e2_99.symm _ hml (by decide) rfl ?_
                    refine pw_goto 33 h d_X8_goes_102 (by decide) ?_
                    refine PW.perm [2, 3, 0] rfl ?_
                    exact ihp (p + 1) _ _ (by omega) (by omega) (k_up e2_99 eu) (goI_F f6 hgo3) hq6
                · skip
                  have q50 : ¬ p < pl 0 := by have := k_ge2 eu x0 (by omega) (by have := isP_le hP (show 0 < n + 2 by omega); omega) c_50; omega
                  refine pw_iload_n h 1 d_X8_goes_53 rfl ?_
                  refine pw_aload_n h 0 d_X8_goes_54 rfl ?_
                  refine pw_getI 8 h d_X8_goes_55 fd_RX8_215 (by assumption) rfl ?_
                  refine pw_iconst (x := 1) h d_X8_goes_58 (by decide) ?_
                  refine pw_isub h d_X8_goes_59 ?_
                  refine pw_icmp_ne 77 h d_X8_goes_60 (by decide) (fun c_60 => ?_) (fun c_60 => ?_)
                  · skip
                    have q60 : ¬ i = n + 1 := fun q => c_60 (by rw [em1, ev, q])
                    refine pw_iconst (x := 0) h d_X8_goes_77 (by decide) ?_
                    refine pw_nmI (fun v3_78 e3_78 => ?_)
                    refine pw_istore_n (lv' := [(3, .int v3_78), (0, .ref m), (1, .int v), (2, .int u)]) h d_X8_goes_78 rfl _ hml (by decide) rfl ?_
                    refine pw_aload_n h 1 d_X8_goes_79 rfl ?_
                    refine pw_iload_n h 0 d_X8_goes_80 rfl ?_
                    refine pw_if_eq 94 h d_X8_goes_81 (by decide) (fun c_81 => ?_) (fun c_81 => ?_)
                    · skip
                      refine pw_lconst (x := 0) h d_X8_goes_94 (by decide) ?_
                      refine pw_lconst (x := 1) h d_X8_goes_95 (by decide) ?_
                      have hg_ := ad_PF (L := L3) (D := dnN pl n i) (a := 0) (b := 1) (t := outF pl w n i p) hq3 (by decide) (by unfold outF; rw [if_neg (by omega)]; exact (Rat.zero_mul _).symm) (dn_ok hP i).1 (dn_ok hP i).2 (Nat.one_dvd _) (inQ_le (out_in (p := p + 1) (i := i) (n := n) hB.2.1 (by omega) bi) (by grind) |> fun q => by rw [Rat.add_assoc]; exact q)
                      refine pw_callV (As := [.long _, .long _]) h d_X8_goes_96 mf_X8_adds mi_X8_adds ml_RX8_235 ⟨by decide, by decide, by decide⟩ (by assumption) rfl rfl (Nat.le_of_ble_eq_true rfl) trivial (c_X8_adds hM0 _ _ hg_.1 hg_.2.1) ?_
                      intro ret6 sh6 I6 L6 R6_ hp6
                      obtain ⟨e0, e1, eI, eL, eR⟩ := hp6
                      subst e0
                      have e1 := e1.symm
                      have eR := eR.symm
                      have eI := eI.symm
                      subst e1
                      subst eR
                      subst eI
                      refine ⟨rfl, ?_⟩
                      have f6 : frF m L3 L6 := by rw [eL]; exact adL_fr
                      have hq6 : PF L6 m (dnN pl n i) (w (pl i) + sQ (outF pl w n i) (p + 1)) := by rw [eL]; show PF _ m _ (w (pl i) + (sQ (outF pl w n i) p + outF pl w n i p)); rw [← Rat.add_assoc]; exact hg_.2.2
                      clear eL
                      obtain ⟨v2_99, e2_99⟩ : ∃ z : Int32, z = u + (1) := ⟨_, rfl⟩
                      refine pw_iinc (lv' := [(2, .int v2_99), (3, .int v3_78), (0, .ref m), (1, .int v)]) v2_99 h d_X8_goes_99 3 rfl e2_99.symm _ hml (by decide) rfl ?_
                      refine pw_goto 33 h d_X8_goes_102 (by decide) ?_
                      refine PW.perm [2, 3, 0] rfl ?_
                      exact ihp (p + 1) _ _ (by omega) (by omega) (k_up e2_99 eu) (goI_F f6 hgo3) hq6
                    · exact absurd e3_78 c_81
                  · skip
                    have q60 : i = n + 1 := (nI_eq (by omega) (by omega)).mp (ev.symm.trans (c_60.trans em1))
                    refine pw_iload_n h 2 d_X8_goes_63 rfl ?_
                    refine pw_aload_n h 0 d_X8_goes_64 rfl ?_
                    refine pw_getR (j := (m + 11)) 8 h d_X8_goes_65 fd_RX8_48 (by assumption) rfl (by assumption) ?_
                    refine pw_iload_n h 1 d_X8_goes_68 rfl ?_
                    refine pw_iald h d_X8_goes_69 (by assumption) (by assumption) ?_
                    refine pw_icmp_le 77 h d_X8_goes_70 (by decide) (fun c_70 => ?_) (fun c_70 => ?_)
                    · skip
                      have q70 : ¬ pl i < p := by have := k_le2 eu xi (by omega) (by omega) c_70; omega
                      refine pw_iconst (x := 0) h d_X8_goes_77 (by decide) ?_
                      refine pw_nmI (fun v3_78 e3_78 => ?_)
                      refine pw_istore_n (lv' := [(3, .int v3_78), (0, .ref m), (1, .int v), (2, .int u)]) h d_X8_goes_78 rfl _ hml (by decide) rfl ?_
                      refine pw_aload_n h 1 d_X8_goes_79 rfl ?_
                      refine pw_iload_n h 0 d_X8_goes_80 rfl ?_
                      refine pw_if_eq 94 h d_X8_goes_81 (by decide) (fun c_81 => ?_) (fun c_81 => ?_)
                      · skip
                        refine pw_lconst (x := 0) h d_X8_goes_94 (by decide) ?_
                        refine pw_lconst (x := 1) h d_X8_goes_95 (by decide) ?_
                        have hg_ := ad_PF (L := L3) (D := dnN pl n i) (a := 0) (b := 1) (t := outF pl w n i p) hq3 (by decide) (by unfold outF; rw [if_neg (by omega)]; exact (Rat.zero_mul _).symm) (dn_ok hP i).1 (dn_ok hP i).2 (Nat.one_dvd _) (inQ_le (out_in (p := p + 1) (i := i) (n := n) hB.2.1 (by omega) bi) (by grind) |> fun q => by rw [Rat.add_assoc]; exact q)
                        refine pw_callV (As := [.long _, .long _]) h d_X8_goes_96 mf_X8_adds mi_X8_adds ml_RX8_235 ⟨by decide, by decide, by decide⟩ (by assumption) rfl rfl (Nat.le_of_ble_eq_true rfl) trivial (c_X8_adds hM0 _ _ hg_.1 hg_.2.1) ?_
                        intro ret6 sh6 I6 L6 R6_ hp6
                        obtain ⟨e0, e1, eI, eL, eR⟩ := hp6
                        subst e0
                        have e1 := e1.symm
                        have eR := eR.symm
                        have eI := eI.symm
                        subst e1
                        subst eR
                        subst eI
                        refine ⟨rfl, ?_⟩
                        have f6 : frF m L3 L6 := by rw [eL]; exact adL_fr
                        have hq6 : PF L6 m (dnN pl n i) (w (pl i) + sQ (outF pl w n i) (p + 1)) := by rw [eL]; show PF _ m _ (w (pl i) + (sQ (outF pl w n i) p + outF pl w n i p)); rw [← Rat.add_assoc]; exact hg_.2.2
                        clear eL
                        obtain ⟨v2_99, e2_99⟩ : ∃ z : Int32, z = u + (1) := ⟨_, rfl⟩
                        refine pw_iinc (lv' := [(2, .int v2_99), (3, .int v3_78), (0, .ref m), (1, .int v)]) v2_99 h d_X8_goes_99 3 rfl e2_99.symm _ hml (by decide) rfl ?_
                        refine pw_goto 33 h d_X8_goes_102 (by decide) ?_
                        refine PW.perm [2, 3, 0] rfl ?_
                        exact ihp (p + 1) _ _ (by omega) (by omega) (k_up e2_99 eu) (goI_F f6 hgo3) hq6
                      · exact absurd e3_78 c_81
                    · skip
                      have q70 : pl i < p := k_gt2 eu xi (by omega) (by omega) c_70
                      refine pw_iconst (x := 1) h d_X8_goes_73 (by decide) ?_
                      refine pw_goto 78 h d_X8_goes_74 (by decide) ?_
                      refine pw_nmI (fun v3_78 e3_78 => ?_)
                      refine pw_istore_n (lv' := [(3, .int v3_78), (0, .ref m), (1, .int v), (2, .int u)]) h d_X8_goes_78 rfl _ hml (by decide) rfl ?_
                      refine pw_aload_n h 1 d_X8_goes_79 rfl ?_
                      refine pw_iload_n h 0 d_X8_goes_80 rfl ?_
                      refine pw_if_eq 94 h d_X8_goes_81 (by decide) (fun c_81 => ?_) (fun c_81 => ?_)
                      · exact absurd (e3_78.symm.trans c_81) (by decide)
                      · skip
                        refine pw_aload_n h 1 d_X8_goes_84 rfl ?_
                        refine pw_getR (j := (m + 13)) 8 h d_X8_goes_85 fd_RX8_54 (by assumption) rfl (by assumption) ?_
                        refine pw_iload_n h 3 d_X8_goes_88 rfl ?_
                        refine pw_iald h d_X8_goes_89 (by assumption) (by assumption) ?_
                        refine pw_i2l h d_X8_goes_90 ?_
                        refine pw_goto 95 h d_X8_goes_91 (by decide) ?_
                        refine pw_lconst (x := 1) h d_X8_goes_95 (by decide) ?_
                        have hg_ := ad_PF (L := L3) (D := dnN pl n i) (a := (I (m + 13) p).toInt64) (b := 1) (t := outF pl w n i p) hq3 (by decide) (by rw [Int32.toInt_toInt64, hS.2.2.2.1 p (by omega)]; unfold outF; rw [if_pos (by omega)]; exact (Rat.mul_one _).symm) (dn_ok hP i).1 (dn_ok hP i).2 (Nat.one_dvd _) (inQ_le (out_in (p := p + 1) (i := i) (n := n) hB.2.1 (by omega) bi) (by grind) |> fun q => by rw [Rat.add_assoc]; exact q)
                        refine pw_callV (As := [.long _, .long _]) h d_X8_goes_96 mf_X8_adds mi_X8_adds ml_RX8_235 ⟨by decide, by decide, by decide⟩ (by assumption) rfl rfl (Nat.le_of_ble_eq_true rfl) trivial (c_X8_adds hM0 _ _ hg_.1 hg_.2.1) ?_
                        intro ret6 sh6 I6 L6 R6_ hp6
                        obtain ⟨e0, e1, eI, eL, eR⟩ := hp6
                        subst e0
                        have e1 := e1.symm
                        have eR := eR.symm
                        have eI := eI.symm
                        subst e1
                        subst eR
                        subst eI
                        refine ⟨rfl, ?_⟩
                        have f6 : frF m L3 L6 := by rw [eL]; exact adL_fr
                        have hq6 : PF L6 m (dnN pl n i) (w (pl i) + sQ (outF pl w n i) (p + 1)) := by rw [eL]; show PF _ m _ (w (pl i) + (sQ (outF pl w n i) p + outF pl w n i p)); rw [← Rat.add_assoc]; exact hg_.2.2
                        clear eL
                        obtain ⟨v2_99, e2_99⟩ : ∃ z : Int32, z = u + (1) := ⟨_, rfl⟩
                        refine pw_iinc (lv' := [(2, .int v2_99), (3, .int v3_78), (0, .ref m), (1, .int v)]) v2_99 h d_X8_goes_99 3 rfl e2_99.symm _ hml (by decide) rfl ?_
                        refine pw_goto 33 h d_X8_goes_102 (by decide) ?_
                        refine PW.perm [2, 3, 0] rfl ?_
                        exact ihp (p + 1) _ _ (by omega) (by omega) (k_up e2_99 eu) (goI_F f6 hgo3) hq6
        refine PW.perm [1, 2, 0] rfl ?_
        exact cut_33 14 0 _ _ (by omega) (Nat.zero_le _) e2_32 hgo30 hq30
  refine PW.perm [1, 0] rfl ?_
  exact cut_6 (n + 3) 0 _ _ (by omega) (Nat.zero_le _) e1_5 hgo1
