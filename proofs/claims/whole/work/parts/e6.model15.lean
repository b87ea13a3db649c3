set_option maxHeartbeats 4000000 in
set_option maxRecDepth 100000 in
theorem c_X8_sums {sh : Sh} {I : IM} {L : LM} {R : RM} {m n x D : Nat} {pl : Nat → Nat} {hg w : Nat → Rat} {F H : Rat} {cc : Rat → Rat} {u q : Int32} (hM : ModF sh R m) (hB : okB pl hg w F H n) (hS : SolM I m n pl hg w F) (hlo : loF L m n pl hg w F) (hDQ : DQ (spR pl n) n = (D : Rat)) (hD : 0 < D) (hDl : D ≤ 204472320) (hcc : ccOk q cc) (eu : u = nI x) (hx : x ≤ 12) : PMet M_X8_sums [.ref m, .int u, .int q] sh I L R (sumP sh I L R m D (smV pl hg w F n cc x)) := by
  refine PMet.of mf_X8_sums (Nat.le_of_ble_eq_true rfl) ?_
  intro X h hr hml
  have hml : (xc X).maxLocals = 4 := hml
  have h : PXok X RX8 cX8_sums 4 0 0 := h
  have hr : PXr X none "sums" _ 0 0 := hr
  have hM0 := hM
  obtain ⟨f0, f1, f2, f3, f4, f5, f6, f7, f8, f9, f10, f11, f12, f13, f14, f15, f16, f17, f18, f19, f20, f21, f22, f23, f24, f25, f26, f27, g1, g2, g3, g4, g5, g6, g7, g8, g9, g10, g11, g12, g13, g14, g15, g16, g17, g18, g19, g20, g21, g22, g23, g24, g25, g26, g27⟩ := hM
  have hP := hB.1
  have h5 := hP.1
  have hmany := hS.1
  have hDi := D_inQ hDl
  show PW X 0 [(0, .ref m), (1, .int u), (2, .int q)] [] sh I L R 0 0
  refine pw_aload_n h 0 d_X8_sums_0 rfl ?_
  refine pw_lconst (x := 0) h d_X8_sums_1 (by decide) ?_
  refine pw_lconst (x := 1) h d_X8_sums_2 (by decide) ?_
  have hk := mk_PF (L := L) (m := m) (D := D) (a := 0) (b := 1) (q := 0) (by decide) rfl rfl
  refine pw_callV (As := [.long _, .long _]) h d_X8_sums_3 mf_X8_makes mi_X8_makes ml_RX8_205 ⟨by decide, by decide, by decide⟩ (by assumption) rfl rfl (Nat.le_of_ble_eq_true rfl) trivial (c_X8_makes hM0 _ _ hk.1) ?_
  intro ret1 sh1 I1 L1 R1_ hp1
  obtain ⟨e0, e1, eI, eL, eR⟩ := hp1
  subst e0
  have e1 := e1.symm
  have eR := eR.symm
  have eI := eI.symm
  subst e1
  subst eR
  subst eI
  refine ⟨rfl, ?_⟩
  have f1_ : frF m L L1 := by rw [eL]; exact mkL_fr
  have hq1 : PF L1 m D (sQ (fun k => ldP pl hg w F n k * cc ((x : Rat) - pl k)) 0) := by rw [eL]; exact hk.2
  clear eL
  refine pw_iconst (x := 0) h d_X8_sums_6 (by decide) ?_
  refine pw_nmI (fun v3_7 e3_7 => ?_)
  refine pw_istore_n (lv' := [(3, .int v3_7), (0, .ref m), (1, .int u), (2, .int q)]) h d_X8_sums_7 rfl _ hml (by decide) rfl ?_
  have cut_8 : ∀ (N i : Nat) (v : Int32) (L2 : LM), n + 2 < i + N → i ≤ n + 2 → v = nI i → frF m L L2 → PF L2 m D (sQ (fun k => ldP pl hg w F n k * cc ((x : Rat) - pl k)) i) → PW X 8 [(0, .ref m), (1, .int u), (2, .int q), (3, .int v)] [] sh I L2 R 0 0 := by
    intro N
    induction N with
    | zero => intros; omega
    | succ N ih =>
      intro i v L2 hN hi ev f2 hq2
      refine pw_iload_n h 3 d_X8_sums_8 rfl ?_
      refine pw_aload_n h 0 d_X8_sums_9 rfl ?_
      refine pw_getI 8 h d_X8_sums_10 fd_RX8_215 (by assumption) rfl ?_
      refine pw_icmp_ge 52 h d_X8_sums_13 (by decide) (fun c_13 => ?_) (fun c_13 => ?_)
      · skip
        have hge : n + 2 ≤ i := k_ge ev hmany (by omega) (by omega) c_13
        have e9 : i = n + 2 := by omega
        subst e9
        refine pw_iconst (x := 0) h d_X8_sums_52 (by decide) ?_
        refine pw_nmI (fun v3_53 e3_53 => ?_)
        refine pw_istore_n (lv' := [(3, .int v3_53), (0, .ref m), (1, .int u), (2, .int q)]) h d_X8_sums_53 rfl _ hml (by decide) rfl ?_
        have cut_54 : ∀ (N p : Nat) (v : Int32) (L3 : LM), 13 < p + N → p ≤ 13 → v = nI p → frF m L L3 → PF L3 m D (sQ (fun k => ldP pl hg w F n k * cc ((x : Rat) - pl k)) (n + 2) - sQ (fun p => w p * cc ((x : Rat) - p)) p) → PW X 54 [(0, .ref m), (1, .int u), (2, .int q), (3, .int v)] [] sh I L3 R 0 0 := by
          intro N
          induction N with
          | zero => intros; omega
          | succ N ihp =>
            intro p v L3 hN hp ev f3 hq3
            refine pw_iload_n h 3 d_X8_sums_54 rfl ?_
            refine pw_bipush (x := 13) h d_X8_sums_55 (by decide) ?_
            refine pw_icmp_ge 88 h d_X8_sums_57 (by decide) (fun c_57 => ?_) (fun c_57 => ?_)
            · skip
              have hge := k_ge ev (n := 13) rfl (by omega) (by omega) c_57
              have e9 : p = 13 := by omega
              subst e9
              refine pw_aload_n h 0 d_X8_sums_88 rfl ?_
              refine pw_aload_n h 0 d_X8_sums_89 rfl ?_
              refine pw_getL 8 h d_X8_sums_90 fd_RX8_202 (by assumption) rfl ?_
              refine pw_putL 8 h d_X8_sums_93 fd_RX8_251 (by assumption) rfl rfl rfl rfl ?_
              refine pw_aload_n h 0 d_X8_sums_96 rfl ?_
              refine pw_aload_n h 0 d_X8_sums_97 rfl ?_
              refine pw_getL 8 h d_X8_sums_98 fd_RX8_44 (by assumption) rfl ?_
              refine pw_putL 8 h d_X8_sums_101 fd_RX8_254 (by assumption) rfl rfl rfl rfl ?_
              refine pw_vret h hr d_X8_sums_104 (by decide) (by decide) ?_
              exact sum_end f3 hq3 rfl
            · skip
              have hp13 : p < 13 := k_lt ev (n := 13) rfl (by omega) (by omega) c_57
              have hxp : px_ix v 13 p := k_ix ev hp13 (by decide)
              have hcn := cc_n hcc hx (show p ≤ 12 by omega)
              rw [← eu, ← ev] at hcn
              refine pw_aload_n h 0 d_X8_sums_60 rfl ?_
              refine pw_aload_n h 0 d_X8_sums_61 rfl ?_
              refine pw_getR (j := (m + 13)) 8 h d_X8_sums_62 fd_RX8_54 (by assumption) rfl (by assumption) ?_
              refine pw_iload_n h 3 d_X8_sums_65 rfl ?_
              refine pw_iald h d_X8_sums_66 (by assumption) (by assumption) ?_
              refine pw_ineg h d_X8_sums_67 ?_
              refine pw_i2l h d_X8_sums_68 ?_
              refine pw_iload_n h 1 d_X8_sums_69 rfl ?_
              refine pw_iload_n h 3 d_X8_sums_70 rfl ?_
              refine pw_isub h d_X8_sums_71 ?_
              refine pw_i2l h d_X8_sums_72 ?_
              refine pw_iload_n h 2 d_X8_sums_73 rfl ?_
              refine pw_callS (As := [.long _, .int _]) h d_X8_sums_74 mf_X8_cube st_yX8_cube ml_RX8_247 ⟨by decide, by decide, by decide⟩ rfl rfl (Nat.le_of_ble_eq_true rfl) c_X8_cube ?_
              refine PKk.ret ?_
              refine pw_lmul h d_X8_sums_77 ?_
              refine pw_lconst (x := 1) h d_X8_sums_78 (by decide) ?_
              have htb := sm_b (hS.2.2.2.1 p hp13) (hB.2.1 p hp13) hcn.1 hcn.2
              have e8 : sQ (fun k => ldP pl hg w F n k * cc ((x : Rat) - pl k)) (n + 2) - sQ (fun p => w p * cc ((x : Rat) - p)) p + -(w p * cc ((x : Rat) - p)) = sQ (fun k => ldP pl hg w F n k * cc ((x : Rat) - pl k)) (n + 2) - sQ (fun p => w p * cc ((x : Rat) - p)) (p + 1) := by simp only [sQ]; grind
              have gb := ad_PFg (B := 3300000000) hq3 (by decide) htb hD (by omega) hDi (Nat.one_dvd _) (by rw [e8]; exact inQ_le (inQ_sub (sm_in1 (i := n + 2) hB hcc hx (Nat.le_refl _)) (sm_in2 (i := p + 1) hB.2.1 hcc hx (by omega))) (by grind)) (by grind)
              refine pw_callV (As := [.long _, .long _]) h d_X8_sums_79 mf_X8_adds mi_X8_adds ml_RX8_235 ⟨by decide, by decide, by decide⟩ (by assumption) rfl rfl (Nat.le_of_ble_eq_true rfl) trivial (c_X8_adds hM0 _ _ gb.1 gb.2.1) ?_
              intro ret5 sh5 I5 L5 R5_ hp5
              obtain ⟨e0, e1, eI, eL, eR⟩ := hp5
              subst e0
              have e1 := e1.symm
              have eR := eR.symm
              have eI := eI.symm
              subst e1
              subst eR
              subst eI
              refine ⟨rfl, ?_⟩
              have f5 : frF m L3 L5 := by rw [eL]; exact adL_fr
              have hq5 : PF L5 m D (sQ (fun k => ldP pl hg w F n k * cc ((x : Rat) - pl k)) (n + 2) - sQ (fun p => w p * cc ((x : Rat) - p)) (p + 1)) := by have e9 : sQ (fun k => ldP pl hg w F n k * cc ((x : Rat) - pl k)) (n + 2) - sQ (fun p => w p * cc ((x : Rat) - p)) (p + 1) = sQ (fun k => ldP pl hg w F n k * cc ((x : Rat) - pl k)) (n + 2) - sQ (fun p => w p * cc ((x : Rat) - p)) p + -(w p * cc ((x : Rat) - p)) := (by simp only [sQ]; grind); rw [eL, e9]; exact gb.2.2
              clear eL
              obtain ⟨v3_82, e3_82⟩ : ∃ z : Int32, z = v + (1) := ⟨_, rfl⟩
              refine pw_iinc (lv' := [(3, .int v3_82), (0, .ref m), (1, .int u), (2, .int q)]) v3_82 h d_X8_sums_82 3 rfl e3_82.symm _ hml (by decide) rfl ?_
              refine pw_goto 54 h d_X8_sums_85 (by decide) ?_
              refine PW.perm [1, 2, 3, 0] rfl ?_
              exact ihp (p + 1) _ _ (by omega) (by omega) (k_up e3_82 ev) (frF_t f3 f5) hq5
        refine PW.perm [1, 2, 3, 0] rfl ?_
        exact cut_54 14 0 _ _ (by omega) (Nat.zero_le _) e3_53 f2 (by show PF L2 m D (sQ (fun k => ldP pl hg w F n k * cc ((x : Rat) - pl k)) (n + 2) - 0); rw [Rat.sub_eq_add_neg, Rat.neg_zero, Rat.add_zero]; exact hq2)
      · skip
        have hin : i < n + 2 := k_lt ev hmany (by omega) (by omega) c_13
        have hx7 : px_ix v 7 i := k_ix ev (by omega) (by decide)
        have bi := isP_le hP hin
        have xi := hS.2.1 i hin
        have hcn := cc_n hcc hx bi
        rw [← eu, ← xi] at hcn
        refine pw_aload_n h 0 d_X8_sums_16 rfl ?_
        refine pw_aload_n h 0 d_X8_sums_17 rfl ?_
        refine pw_getR (j := (m + 14)) 8 h d_X8_sums_18 fd_RX8_57 (by assumption) rfl (by assumption) ?_
        refine pw_iload_n h 3 d_X8_sums_21 rfl ?_
        refine pw_lald h d_X8_sums_22 (by assumption) (by assumption) ?_
        refine pw_iload_n h 1 d_X8_sums_23 rfl ?_
        refine pw_aload_n h 0 d_X8_sums_24 rfl ?_
        refine pw_getR (j := (m + 11)) 8 h d_X8_sums_25 fd_RX8_48 (by assumption) rfl (by assumption) ?_
        refine pw_iload_n h 3 d_X8_sums_28 rfl ?_
        refine pw_iald h d_X8_sums_29 (by assumption) (by assumption) ?_
        refine pw_isub h d_X8_sums_30 ?_
        refine pw_i2l h d_X8_sums_31 ?_
        refine pw_iload_n h 2 d_X8_sums_32 rfl ?_
        refine pw_callS (As := [.long _, .int _]) h d_X8_sums_33 mf_X8_cube st_yX8_cube ml_RX8_247 ⟨by decide, by decide, by decide⟩ rfl rfl (Nat.le_of_ble_eq_true rfl) c_X8_cube ?_
        refine PKk.ret ?_
        refine pw_lmul h d_X8_sums_36 ?_
        refine pw_aload_n h 0 d_X8_sums_37 rfl ?_
        refine pw_getR (j := (m + 15)) 8 h d_X8_sums_38 fd_RX8_61 (by assumption) rfl (by assumption) ?_
        refine pw_iload_n h 3 d_X8_sums_41 rfl ?_
        refine pw_lald h d_X8_sums_42 (by assumption) (by assumption) ?_
        have hlo2 : RF (L2 (m + 14) i) (L2 (m + 15) i) (ldP pl hg w F n i) := by rw [f2 _ _ (by omega), f2 _ _ (by omega)]; exact hlo i hin
        have hta := sm_a hB hin hlo2 (ld_D hP hS hin hDQ hD) hD hDl hcn.1 hcn.2
        have ga := ad_PFg hq2 hta.2.1 hta.1 hD (by omega) hDi hta.2.2 (sm_in1 (i := i + 1) hB hcc hx (by omega)) (by grind)
        refine pw_callV (As := [.long _, .long _]) h d_X8_sums_43 mf_X8_adds mi_X8_adds ml_RX8_235 ⟨by decide, by decide, by decide⟩ (by assumption) rfl rfl (Nat.le_of_ble_eq_true rfl) trivial (c_X8_adds hM0 _ _ ga.1 ga.2.1) ?_
        intro ret4 sh4 I4 L4 R4_ hp4
        obtain ⟨e0, e1, eI, eL, eR⟩ := hp4
        subst e0
        have e1 := e1.symm
        have eR := eR.symm
        have eI := eI.symm
        subst e1
        subst eR
        subst eI
        refine ⟨rfl, ?_⟩
        have f4 : frF m L2 L4 := by rw [eL]; exact adL_fr
        have hq4 : PF L4 m D (sQ (fun k => ldP pl hg w F n k * cc ((x : Rat) - pl k)) (i + 1)) := by rw [eL]; exact ga.2.2
        clear eL
        obtain ⟨v3_46, e3_46⟩ : ∃ z : Int32, z = v + (1) := ⟨_, rfl⟩
        refine pw_iinc (lv' := [(3, .int v3_46), (0, .ref m), (1, .int u), (2, .int q)]) v3_46 h d_X8_sums_46 3 rfl e3_46.symm _ hml (by decide) rfl ?_
        refine pw_goto 8 h d_X8_sums_49 (by decide) ?_
        refine PW.perm [1, 2, 3, 0] rfl ?_
        exact ih (i + 1) _ _ (by omega) (by omega) (k_up e3_46 ev) (frF_t f2 f4) hq4
  refine PW.perm [1, 2, 3, 0] rfl ?_
  exact cut_8 (n + 3) 0 _ _ (by omega) (Nat.zero_le _) e3_7 f1_ hq1
