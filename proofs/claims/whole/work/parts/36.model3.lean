set_option maxHeartbeats 4000000 in
set_option maxRecDepth 100000 in
theorem c_X8_chooses {sh : Sh} {I : IM} {L : LM} {R : RM} {m n : Nat} (hM : ModF sh R m) (hc : I m 32 = nI n) (h7 : n ≤ 7) (c : Int32) : PMet M_X8_chooses [.ref m, .int c] sh I L R (pRet none sh (chI I m c n) L R) := by
  refine PMet.of mf_X8_chooses (Nat.le_of_ble_eq_true rfl) ?_
  intro X h hr hml
  have hml : (xc X).maxLocals = 3 := hml
  have h : PXok X RX8 cX8_chooses 1 0 0 := h
  have hr : PXr X none "chooses" _ 0 0 := hr
  have hM0 := hM
  obtain ⟨f0, f1, f2, f3, f4, f5, f6, f7, f8, f9, f10, f11, f12, f13, f14, f15, f16, f17, f18, f19, f20, f21, f22, f23, f24, f25, f26, f27, g1, g2, g3, g4, g5, g6, g7, g8, g9, g10, g11, g12, g13, g14, g15, g16, g17, g18, g19, g20, g21, g22, g23, g24, g25, g26, g27⟩ := hM
  show PW X 0 [(0, .ref m), (1, .int c)] [] sh I L R 0 0
  refine pw_aload_n h 0 d_X8_chooses_0 rfl ?_
  refine pw_iconst (x := 0) h d_X8_chooses_1 (by decide) ?_
  refine pw_putI 8 h d_X8_chooses_2 fd_RX8_215 (by assumption) rfl rfl rfl rfl ?_
  refine pw_iconst (x := 0) h d_X8_chooses_5 (by decide) ?_
  refine pw_nmI (fun v2_6 e2_6 => ?_)
  refine pw_istore_n (lv' := [(2, .int v2_6), (0, .ref m), (1, .int c)]) h d_X8_chooses_6 rfl _ hml (by decide) rfl ?_
  have cut_7 : ∀ (N i : Nat) (v : Int32), n < i + N → i ≤ n → v = nI i → PW X 7 [(0, .ref m), (1, .int c), (2, .int v)] [] sh (chI I m c i) L R 0 0 := by
    intro N
    induction N with
    | zero => intros; omega
    | succ N ih =>
      intro i v hN hi ev
      refine pw_iload_n h 2 d_X8_chooses_7 rfl ?_
      refine pw_aload_n h 0 d_X8_chooses_8 rfl ?_
      refine pw_getI 8 h d_X8_chooses_9 fd_RX8_264 (by assumption) rfl ?_
      refine pw_icmp_ge 70 h d_X8_chooses_12 (by decide) (fun c_12 => ?_) (fun c_12 => ?_)
      · skip
        have hge := k_ge ev (n := n) (by rw [chI_o (by omega) (by omega) (Or.inr (by decide))]; exact hc) (by omega) (by omega) c_12
        have e : n = i := by omega
        subst e
        refine pw_vret h hr d_X8_chooses_70 (by decide) (by decide) ?_
        exact ⟨rfl, rfl, rfl, rfl, rfl⟩
      · skip
        have hlt := k_lt ev (n := n) (by rw [chI_o (by omega) (by omega) (Or.inr (by decide))]; exact hc) (by omega) (by omega) c_12
        have hx := k_ix ev (show i < 7 by omega) (by decide)
        have hcl := cntS_le (s := selM c) i
        refine pw_iload_n h 1 d_X8_chooses_15 rfl ?_
        refine pw_iload_n h 2 d_X8_chooses_16 rfl ?_
        refine pw_ishr h d_X8_chooses_17 ?_
        refine pw_iconst (x := 1) h d_X8_chooses_18 (by decide) ?_
        refine pw_iand h d_X8_chooses_19 ?_
        refine pw_iconst (x := 1) h d_X8_chooses_20 (by decide) ?_
        refine pw_icmp_ne 64 h d_X8_chooses_21 (by decide) (fun c_21 => ?_) (fun c_21 => ?_)
        · skip
          have hsel : ¬ selM c i = true := by rw [ev] at c_21; exact fun q => c_21 (of_decide_eq_true q)
          obtain ⟨v2_64, e2_64⟩ : ∃ z : Int32, z = v + (1) := ⟨_, rfl⟩
          refine pw_iinc (lv' := [(2, .int v2_64), (0, .ref m), (1, .int c)]) v2_64 h d_X8_chooses_64 2 rfl e2_64.symm _ hml (by decide) rfl ?_
          refine pw_goto 7 h d_X8_chooses_67 (by decide) ?_
          refine PW.perm [1, 2, 0] rfl ?_
          refine pw_mem ?_ rfl rfl (ih (i + 1) v2_64 (by omega) (by omega) (k_up e2_64 ev))
          first
            | exact chI_n hsel
            | (rw [u2_n1 (show m ≠ m + 12 by omega), u2_n1 (show m ≠ m + 11 by omega), chI_c, nI_1]; exact chI_s hsel (chI_o (by omega) (by omega) (Or.inl (by omega))) (by rw [u2_n1 (by omega)]; exact chI_o (by omega) (by omega) (Or.inl (by omega))))
        · skip
          have hsel : selM c i = true := by rw [ev] at c_21; exact decide_eq_true c_21
          have hxc : px_ix (nI (cntS (selM c) i)) 7 (cntS (selM c) i) := px_ix_nI (by omega) (by decide)
          refine pw_aload_n h 0 d_X8_chooses_24 rfl ?_
          refine pw_getR (j := (m + 11)) 8 h d_X8_chooses_25 fd_RX8_48 (by assumption) rfl (by assumption) ?_
          refine pw_aload_n h 0 d_X8_chooses_28 rfl ?_
          refine pw_getI 8 h d_X8_chooses_29 fd_RX8_215 (by assumption) rfl ?_
          refine pw_aload_n h 0 d_X8_chooses_32 rfl ?_
          refine pw_getR (j := (m + 20)) 8 h d_X8_chooses_33 fd_RX8_76 (by assumption) rfl (by assumption) ?_
          refine pw_iload_n h 2 d_X8_chooses_36 rfl ?_
          refine pw_iald h d_X8_chooses_37 (by assumption) (by assumption) ?_
          refine pw_iast h d_X8_chooses_38 (by assumption) (by rw [chI_c]; exact hxc) ?_
          refine pw_aload_n h 0 d_X8_chooses_39 rfl ?_
          refine pw_getR (j := (m + 12)) 8 h d_X8_chooses_40 fd_RX8_51 (by assumption) rfl (by assumption) ?_
          refine pw_aload_n h 0 d_X8_chooses_43 rfl ?_
          refine pw_getI 8 h d_X8_chooses_44 fd_RX8_215 (by assumption) rfl ?_
          refine pw_aload_n h 0 d_X8_chooses_47 rfl ?_
          refine pw_getR (j := (m + 21)) 8 h d_X8_chooses_48 fd_RX8_79 (by assumption) rfl (by assumption) ?_
          refine pw_iload_n h 2 d_X8_chooses_51 rfl ?_
          refine pw_iald h d_X8_chooses_52 (by assumption) (by assumption) ?_
          refine pw_iast h d_X8_chooses_53 (by assumption) (by rw [u2_n1 (show m ≠ m + 11 by omega), chI_c]; exact hxc) ?_
          refine pw_aload_n h 0 d_X8_chooses_54 rfl ?_
          refine pw_dupR h d_X8_chooses_55 ?_
          refine pw_getI 8 h d_X8_chooses_56 fd_RX8_215 (by assumption) rfl ?_
          refine pw_iconst (x := 1) h d_X8_chooses_59 (by decide) ?_
          refine pw_iadd h d_X8_chooses_60 ?_
          refine pw_putI 8 h d_X8_chooses_61 fd_RX8_215 (by assumption) rfl rfl rfl rfl ?_
          obtain ⟨v2_64, e2_64⟩ : ∃ z : Int32, z = v + (1) := ⟨_, rfl⟩
          refine pw_iinc (lv' := [(2, .int v2_64), (0, .ref m), (1, .int c)]) v2_64 h d_X8_chooses_64 2 rfl e2_64.symm _ hml (by decide) rfl ?_
          refine pw_goto 7 h d_X8_chooses_67 (by decide) ?_
          refine PW.perm [1, 2, 0] rfl ?_
          refine pw_mem ?_ rfl rfl (ih (i + 1) v2_64 (by omega) (by omega) (k_up e2_64 ev))
          first
            | exact chI_n hsel
            | (rw [u2_n1 (show m ≠ m + 12 by omega), u2_n1 (show m ≠ m + 11 by omega), chI_c, nI_1]; exact chI_s hsel (chI_o (by omega) (by omega) (Or.inl (by omega))) (by rw [u2_n1 (by omega)]; exact chI_o (by omega) (by omega) (Or.inl (by omega))))
  refine PW.perm [1, 2, 0] rfl ?_
  refine pw_mem chI_0 rfl rfl (cut_7 (n + 1) 0 v2_6 (by omega) (by omega) e2_6)

set_option maxHeartbeats 4000000 in
set_option maxRecDepth 100000 in
theorem c_X8_hangs1 {sh : Sh} {I : IM} {L : LM} {R : RM} {m n : Nat} (hM : ModF sh R m) (hc : I m 19 = nI n) (h1 : 1 ≤ n) (h7 : n ≤ 7) : PMet M_X8_hangs [.ref m, .int 1] sh I L R (pRet (some (.long (hngF (fun p => (I (m + 11) 0 - nI p).toInt64) (I (m + 13)) 13))) sh I L R) := by
  refine PMet.of mf_X8_hangs (Nat.le_of_ble_eq_true rfl) ?_
  intro X h hr hml
  have hml : (xc X).maxLocals = 7 := hml
  have h : PXok X RX8 cX8_hangs 1 0 0 := h
  have hr : PXr X (some .long) "hangs" _ 0 0 := hr
  have hM0 := hM
  obtain ⟨f0, f1, f2, f3, f4, f5, f6, f7, f8, f9, f10, f11, f12, f13, f14, f15, f16, f17, f18, f19, f20, f21, f22, f23, f24, f25, f26, f27, g1, g2, g3, g4, g5, g6, g7, g8, g9, g10, g11, g12, g13, g14, g15, g16, g17, g18, g19, g20, g21, g22, g23, g24, g25, g26, g27⟩ := hM
  have hxm : px_ix (I m 19 - 1) 7 (n - 1) := k_ixm hc (by omega) (by omega) (by decide)
  show PW X 0 [(0, .ref m), (1, .int 1)] [] sh I L R 0 0
  refine pw_lconst (x := 0) h d_X8_hangs_0 (by decide) ?_
  refine pw_nmL (fun v2_1 e2_1 => ?_)
  refine pw_lstore_n (lv' := [(2, .long v2_1), (0, .ref m), (1, .int 1)]) h d_X8_hangs_1 rfl _ hml (by decide) rfl ?_
  refine pw_iconst (x := 0) h d_X8_hangs_2 (by decide) ?_
  refine pw_nmI (fun v4_3 e4_3 => ?_)
  refine pw_istore (lv' := [(4, .int v4_3), (2, .long v2_1), (0, .ref m), (1, .int 1)]) h d_X8_hangs_3 _ hml (by decide) rfl ?_
  have cut_5 : ∀ (N i : Nat) (a : Int64) (v : Int32), 13 < i + N → i ≤ 13 → v = nI i → a = hngF (fun p => (I (m + 11) 0 - nI p).toInt64) (I (m + 13)) i → PW X 5 [(0, .ref m), (1, .int 1), (2, .long a), (4, .int v)] [] sh I L R 0 0 := by
    intro N
    induction N with
    | zero => intros; omega
    | succ N ih =>
      intro i a v hN hi ev ea
      refine pw_iload h 3 d_X8_hangs_5 rfl ?_
      refine pw_bipush (x := 13) h d_X8_hangs_7 (by decide) ?_
      refine pw_icmp_ge 77 h d_X8_hangs_9 (by decide) (fun c_9 => ?_) (fun c_9 => ?_)
      · skip
        have hge := k_ge ev (n := 13) rfl (by omega) (by omega) c_9
        have e : i = 13 := by omega
        subst e
        refine pw_lload_n h 2 d_X8_hangs_77 rfl ?_
        refine pw_lret h hr d_X8_hangs_78 (by decide) (by decide) ?_
        exact ⟨by rw [ea], rfl, rfl, rfl, rfl⟩
      · skip
        have hlt := k_lt ev (n := 13) rfl (by omega) (by omega) c_9
        have hx := k_ix ev (Nat.lt_of_lt_of_le hlt (show 13 ≤ 13 by omega)) (by decide)
        refine pw_iload_n h 1 d_X8_hangs_12 rfl ?_
        refine pw_if_eq 29 h d_X8_hangs_13 (by decide) (fun c_13 => ?_) (fun c_13 => ?_)
        · exact absurd c_13 (by decide)
        · skip
          refine pw_aload_n h 0 d_X8_hangs_16 rfl ?_
          refine pw_getR (j := (m + 11)) 8 h d_X8_hangs_17 fd_RX8_48 (by assumption) rfl (by assumption) ?_
          refine pw_iconst (x := 0) h d_X8_hangs_20 (by decide) ?_
          refine pw_iald (j := 0) h d_X8_hangs_21 (by assumption) (px_ix_nI (j := 0) (by decide) (by decide)) ?_
          refine pw_iload h 3 d_X8_hangs_22 rfl ?_
          refine pw_isub h d_X8_hangs_24 ?_
          refine pw_i2l h d_X8_hangs_25 ?_
          refine pw_goto 44 h d_X8_hangs_26 (by decide) ?_
          refine pw_nmL (fun v5_44 e5_44 => ?_)
          refine pw_lstore (lv' := [(5, .long v5_44), (0, .ref m), (1, .int 1), (2, .long a), (4, .int v)]) h d_X8_hangs_44 _ hml (by decide) rfl ?_
          refine pw_lload_n h 3 d_X8_hangs_46 rfl ?_
          refine pw_lload h 0 d_X8_hangs_47 rfl ?_
          refine pw_lconst (x := 0) h d_X8_hangs_49 (by decide) ?_
          refine pw_lcmp h d_X8_hangs_50 ?_
          refine pw_if_le 68 h d_X8_hangs_51 (by decide) (fun c_51 => ?_) (fun c_51 => ?_)
          · skip
            refine pw_lconst (x := 0) h d_X8_hangs_68 (by decide) ?_
            refine pw_lsub h d_X8_hangs_69 ?_
            refine pw_nmL (fun v2_70 e2_70 => ?_)
            refine pw_lstore_n (lv' := [(2, .long v2_70), (5, .long v5_44), (0, .ref m), (1, .int 1), (4, .int v)]) h d_X8_hangs_70 rfl _ hml (by decide) rfl ?_
            obtain ⟨v4_71, e4_71⟩ : ∃ z : Int32, z = v + (1) := ⟨_, rfl⟩
            refine pw_iinc (lv' := [(4, .int v4_71), (2, .long v2_70), (5, .long v5_44), (0, .ref m), (1, .int 1)]) v4_71 h d_X8_hangs_71 4 rfl e4_71.symm _ hml (by decide) rfl ?_
            refine pw_goto 5 h d_X8_hangs_74 (by decide) ?_
            refine PW.perm [3, 4, 1, 0] rfl ?_
            exact ih (i + 1) v2_70 v4_71 (by omega) (by omega) (k_up e4_71 ev) (by rw [e2_70, ea]; subst ev; rw [lz_le, e5_44] at c_51; first | (show _ = _ - (if _ then _ else _); rw [if_pos (Int.not_le.mp c_51), e5_44]) | (show _ = _ - (if _ then _ else _); rw [if_neg (Int.not_lt.mpr c_51)]))
          · skip
            refine pw_aload_n h 1 d_X8_hangs_54 rfl ?_
            refine pw_getR (j := (m + 13)) 8 h d_X8_hangs_55 fd_RX8_54 (by assumption) rfl (by assumption) ?_
            refine pw_iload h 4 d_X8_hangs_58 rfl ?_
            refine pw_iald h d_X8_hangs_60 (by assumption) (by assumption) ?_
            refine pw_i2l h d_X8_hangs_61 ?_
            refine pw_lload h 0 d_X8_hangs_62 rfl ?_
            refine pw_lmul h d_X8_hangs_64 ?_
            refine pw_goto 69 h d_X8_hangs_65 (by decide) ?_
            refine pw_lsub h d_X8_hangs_69 ?_
            refine pw_nmL (fun v2_70 e2_70 => ?_)
            refine pw_lstore_n (lv' := [(2, .long v2_70), (5, .long v5_44), (0, .ref m), (1, .int 1), (4, .int v)]) h d_X8_hangs_70 rfl _ hml (by decide) rfl ?_
            obtain ⟨v4_71, e4_71⟩ : ∃ z : Int32, z = v + (1) := ⟨_, rfl⟩
            refine pw_iinc (lv' := [(4, .int v4_71), (2, .long v2_70), (5, .long v5_44), (0, .ref m), (1, .int 1)]) v4_71 h d_X8_hangs_71 4 rfl e4_71.symm _ hml (by decide) rfl ?_
            refine pw_goto 5 h d_X8_hangs_74 (by decide) ?_
            refine PW.perm [3, 4, 1, 0] rfl ?_
            exact ih (i + 1) v2_70 v4_71 (by omega) (by omega) (k_up e4_71 ev) (by rw [e2_70, ea]; subst ev; rw [lz_le, e5_44] at c_51; first | (show _ = _ - (if _ then _ else _); rw [if_pos (Int.not_le.mp c_51), e5_44]) | (show _ = _ - (if _ then _ else _); rw [if_neg (Int.not_lt.mpr c_51)]))
  refine PW.perm [2, 3, 1, 0] rfl ?_
  exact cut_5 14 0 v2_1 v4_3 (by omega) (by omega) e4_3 e2_1

set_option maxHeartbeats 4000000 in
set_option maxRecDepth 100000 in
theorem c_X8_hangs0 {sh : Sh} {I : IM} {L : LM} {R : RM} {m n : Nat} (hM : ModF sh R m) (hc : I m 19 = nI n) (h1 : 1 ≤ n) (h7 : n ≤ 7) : PMet M_X8_hangs [.ref m, .int 0] sh I L R (pRet (some (.long (hngF (fun p => (nI p - I (m + 11) (n - 1)).toInt64) (I (m + 13)) 13))) sh I L R) := by
  refine PMet.of mf_X8_hangs (Nat.le_of_ble_eq_true rfl) ?_
  intro X h hr hml
  have hml : (xc X).maxLocals = 7 := hml
  have h : PXok X RX8 cX8_hangs 1 0 0 := h
  have hr : PXr X (some .long) "hangs" _ 0 0 := hr
  have hM0 := hM
  obtain ⟨f0, f1, f2, f3, f4, f5, f6, f7, f8, f9, f10, f11, f12, f13, f14, f15, f16, f17, f18, f19, f20, f21, f22, f23, f24, f25, f26, f27, g1, g2, g3, g4, g5, g6, g7, g8, g9, g10, g11, g12, g13, g14, g15, g16, g17, g18, g19, g20, g21, g22, g23, g24, g25, g26, g27⟩ := hM
  have hxm : px_ix (I m 19 - 1) 7 (n - 1) := k_ixm hc (by omega) (by omega) (by decide)
  show PW X 0 [(0, .ref m), (1, .int 0)] [] sh I L R 0 0
  refine pw_lconst (x := 0) h d_X8_hangs_0 (by decide) ?_
  refine pw_nmL (fun v2_1 e2_1 => ?_)
  refine pw_lstore_n (lv' := [(2, .long v2_1), (0, .ref m), (1, .int 0)]) h d_X8_hangs_1 rfl _ hml (by decide) rfl ?_
  refine pw_iconst (x := 0) h d_X8_hangs_2 (by decide) ?_
  refine pw_nmI (fun v4_3 e4_3 => ?_)
  refine pw_istore (lv' := [(4, .int v4_3), (2, .long v2_1), (0, .ref m), (1, .int 0)]) h d_X8_hangs_3 _ hml (by decide) rfl ?_
  have cut_5 : ∀ (N i : Nat) (a : Int64) (v : Int32), 13 < i + N → i ≤ 13 → v = nI i → a = hngF (fun p => (nI p - I (m + 11) (n - 1)).toInt64) (I (m + 13)) i → PW X 5 [(0, .ref m), (1, .int 0), (2, .long a), (4, .int v)] [] sh I L R 0 0 := by
    intro N
    induction N with
    | zero => intros; omega
    | succ N ih =>
      intro i a v hN hi ev ea
      refine pw_iload h 3 d_X8_hangs_5 rfl ?_
      refine pw_bipush (x := 13) h d_X8_hangs_7 (by decide) ?_
      refine pw_icmp_ge 77 h d_X8_hangs_9 (by decide) (fun c_9 => ?_) (fun c_9 => ?_)
      · skip
        have hge := k_ge ev (n := 13) rfl (by omega) (by omega) c_9
        have e : i = 13 := by omega
        subst e
        refine pw_lload_n h 2 d_X8_hangs_77 rfl ?_
        refine pw_lret h hr d_X8_hangs_78 (by decide) (by decide) ?_
        exact ⟨by rw [ea], rfl, rfl, rfl, rfl⟩
      · skip
        have hlt := k_lt ev (n := 13) rfl (by omega) (by omega) c_9
        have hx := k_ix ev (Nat.lt_of_lt_of_le hlt (show 13 ≤ 13 by omega)) (by decide)
        refine pw_iload_n h 1 d_X8_hangs_12 rfl ?_
        refine pw_if_eq 29 h d_X8_hangs_13 (by decide) (fun c_13 => ?_) (fun c_13 => ?_)
        · skip
          refine pw_iload h 3 d_X8_hangs_29 rfl ?_
          refine pw_aload_n h 0 d_X8_hangs_31 rfl ?_
          refine pw_getR (j := (m + 11)) 8 h d_X8_hangs_32 fd_RX8_48 (by assumption) rfl (by assumption) ?_
          refine pw_aload_n h 0 d_X8_hangs_35 rfl ?_
          refine pw_getI 8 h d_X8_hangs_36 fd_RX8_215 (by assumption) rfl ?_
          refine pw_iconst (x := 1) h d_X8_hangs_39 (by decide) ?_
          refine pw_isub h d_X8_hangs_40 ?_
          refine pw_iald h d_X8_hangs_41 (by assumption) (by assumption) ?_
          refine pw_isub h d_X8_hangs_42 ?_
          refine pw_i2l h d_X8_hangs_43 ?_
          refine pw_nmL (fun v5_44 e5_44 => ?_)
          refine pw_lstore (lv' := [(5, .long v5_44), (0, .ref m), (1, .int 0), (2, .long a), (4, .int v)]) h d_X8_hangs_44 _ hml (by decide) rfl ?_
          refine pw_lload_n h 3 d_X8_hangs_46 rfl ?_
          refine pw_lload h 0 d_X8_hangs_47 rfl ?_
          refine pw_lconst (x := 0) h d_X8_hangs_49 (by decide) ?_
          refine pw_lcmp h d_X8_hangs_50 ?_
          refine pw_if_le 68 h d_X8_hangs_51 (by decide) (fun c_51 => ?_) (fun c_51 => ?_)
          · skip
            refine pw_lconst (x := 0) h d_X8_hangs_68 (by decide) ?_
            refine pw_lsub h d_X8_hangs_69 ?_
            refine pw_nmL (fun v2_70 e2_70 => ?_)
            refine pw_lstore_n (lv' := [(2, .long v2_70), (5, .long v5_44), (0, .ref m), (1, .int 0), (4, .int v)]) h d_X8_hangs_70 rfl _ hml (by decide) rfl ?_
            obtain ⟨v4_71, e4_71⟩ : ∃ z : Int32, z = v + (1) := ⟨_, rfl⟩
            refine pw_iinc (lv' := [(4, .int v4_71), (2, .long v2_70), (5, .long v5_44), (0, .ref m), (1, .int 0)]) v4_71 h d_X8_hangs_71 4 rfl e4_71.symm _ hml (by decide) rfl ?_
            refine pw_goto 5 h d_X8_hangs_74 (by decide) ?_
            refine PW.perm [3, 4, 1, 0] rfl ?_
            exact ih (i + 1) v2_70 v4_71 (by omega) (by omega) (k_up e4_71 ev) (by rw [e2_70, ea]; subst ev; rw [lz_le, e5_44] at c_51; first | (show _ = _ - (if _ then _ else _); rw [if_pos (Int.not_le.mp c_51), e5_44]) | (show _ = _ - (if _ then _ else _); rw [if_neg (Int.not_lt.mpr c_51)]))
          · skip
            refine pw_aload_n h 1 d_X8_hangs_54 rfl ?_
            refine pw_getR (j := (m + 13)) 8 h d_X8_hangs_55 fd_RX8_54 (by assumption) rfl (by assumption) ?_
            refine pw_iload h 4 d_X8_hangs_58 rfl ?_
            refine pw_iald h d_X8_hangs_60 (by assumption) (by assumption) ?_
            refine pw_i2l h d_X8_hangs_61 ?_
            refine pw_lload h 0 d_X8_hangs_62 rfl ?_
            refine pw_lmul h d_X8_hangs_64 ?_
            refine pw_goto 69 h d_X8_hangs_65 (by decide) ?_
            refine pw_lsub h d_X8_hangs_69 ?_
            refine pw_nmL (fun v2_70 e2_70 => ?_)
            refine pw_lstore_n (lv' := [(2, .long v2_70), (5, .long v5_44), (0, .ref m), (1, .int 0), (4, .int v)]) h d_X8_hangs_70 rfl _ hml (by decide) rfl ?_
            obtain ⟨v4_71, e4_71⟩ : ∃ z : Int32, z = v + (1) := ⟨_, rfl⟩
            refine pw_iinc (lv' := [(4, .int v4_71), (2, .long v2_70), (5, .long v5_44), (0, .ref m), (1, .int 0)]) v4_71 h d_X8_hangs_71 4 rfl e4_71.symm _ hml (by decide) rfl ?_
            refine pw_goto 5 h d_X8_hangs_74 (by decide) ?_
            refine PW.perm [3, 4, 1, 0] rfl ?_
            exact ih (i + 1) v2_70 v4_71 (by omega) (by omega) (k_up e4_71 ev) (by rw [e2_70, ea]; subst ev; rw [lz_le, e5_44] at c_51; first | (show _ = _ - (if _ then _ else _); rw [if_pos (Int.not_le.mp c_51), e5_44]) | (show _ = _ - (if _ then _ else _); rw [if_neg (Int.not_lt.mpr c_51)]))
        · exact absurd c_13 (by decide)
  refine PW.perm [2, 3, 1, 0] rfl ?_
  exact cut_5 14 0 v2_1 v4_3 (by omega) (by omega) e4_3 e2_1
