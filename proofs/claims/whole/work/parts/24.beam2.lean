set_option maxHeartbeats 4000000 in
set_option maxRecDepth 100000 in
theorem c_X0_carry {sh : Sh} {I : IM} {L : LM} {R : RM} {b : Nat} (hB : BeamF sh R b) {w : Nat} (hw : sh[w]? = some (.inr (.int, 13))) (fr to : Int32) : PMet M_X0_carry [.ref b, .ref w, .int fr, .int to] sh I L R (pRet none sh I (carL L b 13 (carS (I w) fr to) (carC (I w) fr to) (carA (I w) fr to 13) (carM (I w) fr to 13)) R) := by
  refine PMet.of mf_X0_carry (Nat.le_of_ble_eq_true rfl) ?_
  intro X h hr hml
  have hml : (xc X).maxLocals = 11 := hml
  have h : PXok X RX0 cX0_carry 1 0 0 := h
  have hr : PXr X none "carry" _ 0 0 := hr
  have hB0 := hB
  obtain ⟨f0, f1, f2, f3, f4, f5, f6, f7, f8, f9, f10, f11, g1, g2, g3, g9, g10, g11, g12, g13, g14, g15, g16⟩ := hB
  obtain ⟨wv, hwv⟩ : ∃ wv, wv = I w := ⟨_, rfl⟩
  rw [← hwv] at hr
  show PW X 0 [(0, .ref b), (1, .ref w), (2, .int fr), (3, .int to)] [] sh I L R 0 0
  refine pw_lconst (x := 0) h d_X0_carry_0 (by decide) ?_
  refine pw_nmL (fun v4_1 e4_1 => ?_)
  refine pw_lstore (lv' := [(4, .long v4_1), (0, .ref b), (1, .ref w), (2, .int fr), (3, .int to)]) h d_X0_carry_1 _ hml (by decide) rfl ?_
  refine pw_lconst (x := 0) h d_X0_carry_3 (by decide) ?_
  refine pw_nmL (fun v6_4 e6_4 => ?_)
  refine pw_lstore (lv' := [(6, .long v6_4), (4, .long v4_1), (0, .ref b), (1, .ref w), (2, .int fr), (3, .int to)]) h d_X0_carry_4 _ hml (by decide) rfl ?_
  refine pw_lconst (x := 0) h d_X0_carry_6 (by decide) ?_
  refine pw_nmL (fun v8_7 e8_7 => ?_)
  refine pw_lstore (lv' := [(8, .long v8_7), (6, .long v6_4), (4, .long v4_1), (0, .ref b), (1, .ref w), (2, .int fr), (3, .int to)]) h d_X0_carry_7 _ hml (by decide) rfl ?_
  refine pw_aload_n h 3 d_X0_carry_9 rfl ?_
  refine pw_lconst (x := 0) h d_X0_carry_10 (by decide) ?_
  refine pw_putL 0 h d_X0_carry_11 fd_RX0_36 (by assumption) rfl rfl rfl rfl ?_
  refine pw_aload_n h 3 d_X0_carry_14 rfl ?_
  refine pw_lconst (x := 0) h d_X0_carry_15 (by decide) ?_
  refine pw_putL 0 h d_X0_carry_16 fd_RX0_39 (by assumption) rfl rfl rfl rfl ?_
  refine pw_iconst (x := 0) h d_X0_carry_19 (by decide) ?_
  refine pw_nmI (fun v10_20 e10_20 => ?_)
  refine pw_istore (lv' := [(10, .int v10_20), (8, .long v8_7), (6, .long v6_4), (4, .long v4_1), (0, .ref b), (1, .ref w), (2, .int fr), (3, .int to)]) h d_X0_carry_20 _ hml (by decide) rfl ?_
  have cut_22 : ∀ (N i : Nat) (o s c : Int64) (v : Int32), 13 < i + N → i ≤ 13 → v = nI i → o = carO wv fr to i → s = carS wv fr to i → c = carC wv fr to i → PW X 22 [(0, .ref b), (1, .ref w), (2, .int fr), (3, .int to), (4, .long o), (6, .long s), (8, .long c), (10, .int v)] [] sh I (carL L b i (carS wv fr to) (carC wv fr to) (carA wv fr to i) (carM wv fr to i)) R 0 0 := by
    intro N
    induction N with
    | zero => intros; omega
    | succ N ih =>
      intro i o s c v hN hi ev eo es ec
      refine pw_iload h 7 d_X0_carry_22 rfl ?_
      refine pw_bipush (x := 13) h d_X0_carry_24 (by decide) ?_
      refine pw_icmp_ge 140 h d_X0_carry_26 (by decide) (fun c_26 => ?_) (fun c_26 => ?_)
      · skip
        have hge := k_ge ev (n := 13) rfl (by omega) (by omega) c_26
        have e : i = 13 := by omega
        subst e
        refine pw_vret h hr d_X0_carry_140 (by decide) (by decide) ?_
        subst hwv
        exact pRet_self
      · skip
        have hlt := k_lt ev (n := 13) rfl (by omega) (by omega) c_26
        have hx := k_ix ev (Nat.lt_of_lt_of_le hlt (show 13 ≤ 13 by omega)) (by decide)
        refine pw_aload_n h 0 d_X0_carry_29 rfl ?_
        refine pw_getR (j := (b + 4)) 0 h d_X0_carry_30 fd_RX0_42 (by assumption) rfl (by assumption) ?_
        refine pw_iload h 7 d_X0_carry_33 rfl ?_
        refine pw_lload h 5 d_X0_carry_35 rfl ?_
        refine pw_last h d_X0_carry_37 (by assumption) (by assumption) ?_
        refine pw_aload_n h 0 d_X0_carry_38 rfl ?_
        refine pw_getR (j := (b + 5)) 0 h d_X0_carry_39 fd_RX0_45 (by assumption) rfl (by assumption) ?_
        refine pw_iload h 7 d_X0_carry_42 rfl ?_
        refine pw_lload h 6 d_X0_carry_44 rfl ?_
        refine pw_last h d_X0_carry_46 (by assumption) (by assumption) ?_
        refine pw_iload h 7 d_X0_carry_47 rfl ?_
        refine pw_iload_n h 2 d_X0_carry_49 rfl ?_
        refine pw_icmp_lt 90 h d_X0_carry_50 (by decide) (fun c_50 => ?_) (fun c_50 => ?_)
        · skip
          have hI : inFT fr to i = false := decide_eq_false (fun q => q.1 (by rw [← ev]; exact c_50))
          have hA : carA wv fr to (i + 1) = carA wv fr to i := if_neg (by rw [hI]; decide)
          have hM : carM wv fr to (i + 1) = carM wv fr to i := if_neg (by rw [hI]; decide)
          refine pw_mem (L' := carL L b (i + 1) (carS wv fr to) (carC wv fr to) (carA wv fr to (i + 1)) (carM wv fr to (i + 1))) rfl ?_ rfl ?_
          · rw [es, ec, hA, hM]; first | exact carL_t | (rw [u2_n1 (by omega), u2_n1 (by omega), carL_7, u2_n2 (by decide), u2_n1 (by omega), u2_n1 (by omega), carL_8, ← hwv, ev]; exact carL_s)
          refine pw_lload h 6 d_X0_carry_90 rfl ?_
          refine pw_ldc2 h d_X0_carry_92 ck_RX0_66 ?_
          refine pw_lload h 5 d_X0_carry_95 rfl ?_
          refine pw_lload h 4 d_X0_carry_97 rfl ?_
          refine pw_ladd h d_X0_carry_99 ?_
          refine pw_lmul h d_X0_carry_100 ?_
          refine pw_aload_n h 0 d_X0_carry_101 rfl ?_
          refine pw_getL 0 h d_X0_carry_102 fd_RX0_36 (by assumption) rfl ?_
          refine pw_ladd h d_X0_carry_105 ?_
          refine pw_ladd h d_X0_carry_106 ?_
          refine pw_nmL (fun v8_107 e8_107 => ?_)
          refine pw_lstore (lv' := [(8, .long v8_107), (0, .ref b), (1, .ref w), (2, .int fr), (3, .int to), (4, .long o), (6, .long s), (10, .int v)]) h d_X0_carry_107 _ hml (by decide) rfl ?_
          refine pw_lload h 6 d_X0_carry_109 rfl ?_
          refine pw_ldc2 h d_X0_carry_111 ck_RX0_68 ?_
          refine pw_lload h 5 d_X0_carry_114 rfl ?_
          refine pw_lmul h d_X0_carry_116 ?_
          refine pw_aload_n h 1 d_X0_carry_117 rfl ?_
          refine pw_getL 0 h d_X0_carry_118 fd_RX0_36 (by assumption) rfl ?_
          refine pw_ladd h d_X0_carry_121 ?_
          refine pw_ladd h d_X0_carry_122 ?_
          refine pw_nmL (fun v6_123 e6_123 => ?_)
          refine pw_lstore (lv' := [(6, .long v6_123), (8, .long v8_107), (0, .ref b), (1, .ref w), (2, .int fr), (3, .int to), (4, .long o), (10, .int v)]) h d_X0_carry_123 _ hml (by decide) rfl ?_
          refine pw_lload h 6 d_X0_carry_125 rfl ?_
          refine pw_aload_n h 2 d_X0_carry_127 rfl ?_
          refine pw_getL 0 h d_X0_carry_128 fd_RX0_36 (by assumption) rfl ?_
          refine pw_ladd h d_X0_carry_131 ?_
          refine pw_nmL (fun v4_132 e4_132 => ?_)
          refine pw_lstore (lv' := [(4, .long v4_132), (6, .long v6_123), (8, .long v8_107), (0, .ref b), (1, .ref w), (2, .int fr), (3, .int to), (10, .int v)]) h d_X0_carry_132 _ hml (by decide) rfl ?_
          obtain ⟨v10_134, e10_134⟩ : ∃ z : Int32, z = v + (1) := ⟨_, rfl⟩
          refine pw_iinc (lv' := [(10, .int v10_134), (4, .long v4_132), (6, .long v6_123), (8, .long v8_107), (0, .ref b), (1, .ref w), (2, .int fr), (3, .int to)]) v10_134 h d_X0_carry_134 7 rfl e10_134.symm _ hml (by decide) rfl ?_
          refine pw_goto 22 h d_X0_carry_137 (by decide) ?_
          refine PW.perm [4, 5, 6, 7, 1, 2, 3, 0] rfl ?_
          exact ih (i + 1) v4_132 v6_123 v8_107 v10_134 (by omega) (by omega) (k_up e10_134 ev) (by rw [e4_132, carL_7, eo]; rfl) (by rw [e6_123, carL_7, es, eo]; rfl) (by rw [e8_107, carL_7, ec, es, eo]; rfl)
        · skip
          refine pw_iload h 7 d_X0_carry_53 rfl ?_
          refine pw_iload_n h 3 d_X0_carry_55 rfl ?_
          refine pw_icmp_ge 90 h d_X0_carry_56 (by decide) (fun c_56 => ?_) (fun c_56 => ?_)
          · skip
            have hI : inFT fr to i = false := decide_eq_false (fun q => q.2 (by rw [← ev]; exact c_56))
            have hA : carA wv fr to (i + 1) = carA wv fr to i := if_neg (by rw [hI]; decide)
            have hM : carM wv fr to (i + 1) = carM wv fr to i := if_neg (by rw [hI]; decide)
            refine pw_mem (L' := carL L b (i + 1) (carS wv fr to) (carC wv fr to) (carA wv fr to (i + 1)) (carM wv fr to (i + 1))) rfl ?_ rfl ?_
            · rw [es, ec, hA, hM]; first | exact carL_t | (rw [u2_n1 (by omega), u2_n1 (by omega), carL_7, u2_n2 (by decide), u2_n1 (by omega), u2_n1 (by omega), carL_8, ← hwv, ev]; exact carL_s)
            refine pw_lload h 6 d_X0_carry_90 rfl ?_
            refine pw_ldc2 h d_X0_carry_92 ck_RX0_66 ?_
            refine pw_lload h 5 d_X0_carry_95 rfl ?_
            refine pw_lload h 4 d_X0_carry_97 rfl ?_
            refine pw_ladd h d_X0_carry_99 ?_
            refine pw_lmul h d_X0_carry_100 ?_
            refine pw_aload_n h 0 d_X0_carry_101 rfl ?_
            refine pw_getL 0 h d_X0_carry_102 fd_RX0_36 (by assumption) rfl ?_
            refine pw_ladd h d_X0_carry_105 ?_
            refine pw_ladd h d_X0_carry_106 ?_
            refine pw_nmL (fun v8_107 e8_107 => ?_)
            refine pw_lstore (lv' := [(8, .long v8_107), (0, .ref b), (1, .ref w), (2, .int fr), (3, .int to), (4, .long o), (6, .long s), (10, .int v)]) h d_X0_carry_107 _ hml (by decide) rfl ?_
            refine pw_lload h 6 d_X0_carry_109 rfl ?_
            refine pw_ldc2 h d_X0_carry_111 ck_RX0_68 ?_
            refine pw_lload h 5 d_X0_carry_114 rfl ?_
            refine pw_lmul h d_X0_carry_116 ?_
            refine pw_aload_n h 1 d_X0_carry_117 rfl ?_
            refine pw_getL 0 h d_X0_carry_118 fd_RX0_36 (by assumption) rfl ?_
            refine pw_ladd h d_X0_carry_121 ?_
            refine pw_ladd h d_X0_carry_122 ?_
            refine pw_nmL (fun v6_123 e6_123 => ?_)
            refine pw_lstore (lv' := [(6, .long v6_123), (8, .long v8_107), (0, .ref b), (1, .ref w), (2, .int fr), (3, .int to), (4, .long o), (10, .int v)]) h d_X0_carry_123 _ hml (by decide) rfl ?_
            refine pw_lload h 6 d_X0_carry_125 rfl ?_
            refine pw_aload_n h 2 d_X0_carry_127 rfl ?_
            refine pw_getL 0 h d_X0_carry_128 fd_RX0_36 (by assumption) rfl ?_
            refine pw_ladd h d_X0_carry_131 ?_
            refine pw_nmL (fun v4_132 e4_132 => ?_)
            refine pw_lstore (lv' := [(4, .long v4_132), (6, .long v6_123), (8, .long v8_107), (0, .ref b), (1, .ref w), (2, .int fr), (3, .int to), (10, .int v)]) h d_X0_carry_132 _ hml (by decide) rfl ?_
            obtain ⟨v10_134, e10_134⟩ : ∃ z : Int32, z = v + (1) := ⟨_, rfl⟩
            refine pw_iinc (lv' := [(10, .int v10_134), (4, .long v4_132), (6, .long v6_123), (8, .long v8_107), (0, .ref b), (1, .ref w), (2, .int fr), (3, .int to)]) v10_134 h d_X0_carry_134 7 rfl e10_134.symm _ hml (by decide) rfl ?_
            refine pw_goto 22 h d_X0_carry_137 (by decide) ?_
            refine PW.perm [4, 5, 6, 7, 1, 2, 3, 0] rfl ?_
            exact ih (i + 1) v4_132 v6_123 v8_107 v10_134 (by omega) (by omega) (k_up e10_134 ev) (by rw [e4_132, carL_7, eo]; rfl) (by rw [e6_123, carL_7, es, eo]; rfl) (by rw [e8_107, carL_7, ec, es, eo]; rfl)
          · skip
            have hI : inFT fr to i = true := decide_eq_true ⟨by rw [← ev]; exact c_50, by rw [← ev]; exact c_56⟩
            have hA : carA wv fr to (i + 1) = carA wv fr to i + (wv i).toInt64 := if_pos hI
            have hM : carM wv fr to (i + 1) = carM wv fr to i + (nI i * wv i).toInt64 := if_pos hI
            refine pw_aload_n h 0 d_X0_carry_59 rfl ?_
            refine pw_dupR h d_X0_carry_60 ?_
            refine pw_getL 0 h d_X0_carry_61 fd_RX0_36 (by assumption) rfl ?_
            refine pw_aload_n h 1 d_X0_carry_64 rfl ?_
            refine pw_iload h 7 d_X0_carry_65 rfl ?_
            refine pw_iald h d_X0_carry_67 (by assumption) (by assumption) ?_
            refine pw_i2l h d_X0_carry_68 ?_
            refine pw_ladd h d_X0_carry_69 ?_
            refine pw_putL 0 h d_X0_carry_70 fd_RX0_36 (by assumption) rfl rfl rfl rfl ?_
            refine pw_aload_n h 0 d_X0_carry_73 rfl ?_
            refine pw_dupR h d_X0_carry_74 ?_
            refine pw_getL 0 h d_X0_carry_75 fd_RX0_39 (by assumption) rfl ?_
            refine pw_iload h 7 d_X0_carry_78 rfl ?_
            refine pw_aload_n h 1 d_X0_carry_80 rfl ?_
            refine pw_iload h 7 d_X0_carry_81 rfl ?_
            refine pw_iald h d_X0_carry_83 (by assumption) (by assumption) ?_
            refine pw_imul h d_X0_carry_84 ?_
            refine pw_i2l h d_X0_carry_85 ?_
            refine pw_ladd h d_X0_carry_86 ?_
            refine pw_putL 0 h d_X0_carry_87 fd_RX0_39 (by assumption) rfl rfl rfl rfl ?_
            refine pw_mem (L' := carL L b (i + 1) (carS wv fr to) (carC wv fr to) (carA wv fr to (i + 1)) (carM wv fr to (i + 1))) rfl ?_ rfl ?_
            · rw [es, ec, hA, hM]; first | exact carL_t | (rw [u2_n1 (by omega), u2_n1 (by omega), carL_7, u2_n2 (by decide), u2_n1 (by omega), u2_n1 (by omega), carL_8, ← hwv, ev]; exact carL_s)
            refine pw_lload h 6 d_X0_carry_90 rfl ?_
            refine pw_ldc2 h d_X0_carry_92 ck_RX0_66 ?_
            refine pw_lload h 5 d_X0_carry_95 rfl ?_
            refine pw_lload h 4 d_X0_carry_97 rfl ?_
            refine pw_ladd h d_X0_carry_99 ?_
            refine pw_lmul h d_X0_carry_100 ?_
            refine pw_aload_n h 0 d_X0_carry_101 rfl ?_
            refine pw_getL 0 h d_X0_carry_102 fd_RX0_36 (by assumption) rfl ?_
            refine pw_ladd h d_X0_carry_105 ?_
            refine pw_ladd h d_X0_carry_106 ?_
            refine pw_nmL (fun v8_107 e8_107 => ?_)
            refine pw_lstore (lv' := [(8, .long v8_107), (0, .ref b), (1, .ref w), (2, .int fr), (3, .int to), (4, .long o), (6, .long s), (10, .int v)]) h d_X0_carry_107 _ hml (by decide) rfl ?_
            refine pw_lload h 6 d_X0_carry_109 rfl ?_
            refine pw_ldc2 h d_X0_carry_111 ck_RX0_68 ?_
            refine pw_lload h 5 d_X0_carry_114 rfl ?_
            refine pw_lmul h d_X0_carry_116 ?_
            refine pw_aload_n h 1 d_X0_carry_117 rfl ?_
            refine pw_getL 0 h d_X0_carry_118 fd_RX0_36 (by assumption) rfl ?_
            refine pw_ladd h d_X0_carry_121 ?_
            refine pw_ladd h d_X0_carry_122 ?_
            refine pw_nmL (fun v6_123 e6_123 => ?_)
            refine pw_lstore (lv' := [(6, .long v6_123), (8, .long v8_107), (0, .ref b), (1, .ref w), (2, .int fr), (3, .int to), (4, .long o), (10, .int v)]) h d_X0_carry_123 _ hml (by decide) rfl ?_
            refine pw_lload h 6 d_X0_carry_125 rfl ?_
            refine pw_aload_n h 2 d_X0_carry_127 rfl ?_
            refine pw_getL 0 h d_X0_carry_128 fd_RX0_36 (by assumption) rfl ?_
            refine pw_ladd h d_X0_carry_131 ?_
            refine pw_nmL (fun v4_132 e4_132 => ?_)
            refine pw_lstore (lv' := [(4, .long v4_132), (6, .long v6_123), (8, .long v8_107), (0, .ref b), (1, .ref w), (2, .int fr), (3, .int to), (10, .int v)]) h d_X0_carry_132 _ hml (by decide) rfl ?_
            obtain ⟨v10_134, e10_134⟩ : ∃ z : Int32, z = v + (1) := ⟨_, rfl⟩
            refine pw_iinc (lv' := [(10, .int v10_134), (4, .long v4_132), (6, .long v6_123), (8, .long v8_107), (0, .ref b), (1, .ref w), (2, .int fr), (3, .int to)]) v10_134 h d_X0_carry_134 7 rfl e10_134.symm _ hml (by decide) rfl ?_
            refine pw_goto 22 h d_X0_carry_137 (by decide) ?_
            refine PW.perm [4, 5, 6, 7, 1, 2, 3, 0] rfl ?_
            exact ih (i + 1) v4_132 v6_123 v8_107 v10_134 (by omega) (by omega) (k_up e10_134 ev) (by rw [e4_132, carL_7, eo]; rfl) (by rw [e6_123, carL_7, es, eo]; rfl) (by rw [e8_107, carL_7, ec, es, eo]; rfl)
  refine PW.perm [4, 5, 6, 7, 3, 2, 1, 0] rfl ?_
  refine pw_mem rfl carL_0 rfl (cut_22 14 0 v4_1 v6_4 v8_7 v10_20 (by omega) (by omega) e10_20 e4_1 e6_4 e8_7)

set_option maxHeartbeats 4000000 in
set_option maxRecDepth 100000 in
theorem c_X0_measure {sh : Sh} {I : IM} {L : LM} {R : RM} {b : Nat} (hB : BeamF sh R b) {n : Nat} (hn : I b 0 = nI n) (h7 : n ≤ 7) (h2 : 2 ≤ n) {pl : Nat → Nat} (hpl : ∀ k, k < n → px_ix (I (b + 1) k) 13 (pl k)) : PMet M_X0_measure [.ref b] sh I L R (pRet none sh I (mesL I L b n pl n) R) := by
  refine PMet.of mf_X0_measure (Nat.le_of_ble_eq_true rfl) ?_
  intro X h hr hml
  have hml : (xc X).maxLocals = 2 := hml
  have h : PXok X RX0 cX0_measure 2 0 0 := h
  have hr : PXr X none "measure" _ 0 0 := hr
  have hB0 := hB
  obtain ⟨f0, f1, f2, f3, f4, f5, f6, f7, f8, f9, f10, f11, g1, g2, g3, g9, g10, g11, g12, g13, g14, g15, g16⟩ := hB
  show PW X 0 [(0, .ref b)] [] sh I L R 0 0
  refine pw_aload_n h 0 d_X0_measure_0 rfl ?_
  refine pw_lconst (x := 1) h d_X0_measure_1 (by decide) ?_
  refine pw_putL 0 h d_X0_measure_2 fd_RX0_33 (by assumption) rfl rfl rfl rfl ?_
  refine pw_iconst (x := 0) h d_X0_measure_5 (by decide) ?_
  refine pw_nmI (fun v1_6 e1_6 => ?_)
  refine pw_istore_n (lv' := [(1, .int v1_6), (0, .ref b)]) h d_X0_measure_6 rfl _ hml (by decide) rfl ?_
  have cut_7 : ∀ (N i : Nat) (v : Int32), n ≤ i + N → i + 1 ≤ n → v = nI i → PW X 7 [(0, .ref b), (1, .int v)] [] sh I (mesL0 I L b i) R 0 0 := by
    intro N
    induction N with
    | zero => intros; omega
    | succ N ih =>
      intro i v hN hi ev
      refine pw_iload_n h 1 d_X0_measure_7 rfl ?_
      refine pw_iconst (x := 1) h d_X0_measure_8 (by decide) ?_
      refine pw_iadd h d_X0_measure_9 ?_
      refine pw_aload_n h 0 d_X0_measure_10 rfl ?_
      refine pw_getI 0 h d_X0_measure_11 fd_RX0_9 (by assumption) rfl ?_
      refine pw_icmp_ge 60 h d_X0_measure_14 (by decide) (fun c_14 => ?_) (fun c_14 => ?_)
      · skip
        have hge := k_ge1 ev hn (by omega) (by omega) c_14
        have e : i = n - 1 := by omega
        subst e
        refine pw_iconst (x := 0) h d_X0_measure_60 (by decide) ?_
        refine pw_nmI (fun v1_61 e1_61 => ?_)
        refine pw_istore_n (lv' := [(1, .int v1_61), (0, .ref b)]) h d_X0_measure_61 rfl _ hml (by decide) rfl ?_
        have cut_62 : ∀ (N i : Nat) (v : Int32), n < i + N → i ≤ n → v = nI i → PW X 62 [(0, .ref b), (1, .int v)] [] sh I (mesL I L b n pl i) R 0 0 := by
          intro N
          induction N with
          | zero => intros; omega
          | succ N ih =>
            intro i v hN hi ev
            refine pw_iload_n h 1 d_X0_measure_62 rfl ?_
            refine pw_aload_n h 0 d_X0_measure_63 rfl ?_
            refine pw_getI 0 h d_X0_measure_64 fd_RX0_9 (by assumption) rfl ?_
            refine pw_icmp_ge 163 h d_X0_measure_67 (by decide) (fun c_67 => ?_) (fun c_67 => ?_)
            · skip
              have hge := k_ge ev hn (by omega) (by omega) c_67
              have e : i = n := by omega
              subst e
              refine pw_vret h hr d_X0_measure_163 (by decide) (by decide) ?_
              exact ⟨rfl, rfl, rfl, rfl, rfl⟩
            · skip
              have hlt := k_lt ev hn (by omega) (by omega) c_67
              have hx := k_ix ev (show i < 7 by omega) (by decide)
              have hpi := hpl i hlt
              refine pw_aload_n h 0 d_X0_measure_70 rfl ?_
              refine pw_getR (j := (b + 7)) 0 h d_X0_measure_71 fd_RX0_51 (by assumption) rfl (by assumption) ?_
              refine pw_iload_n h 1 d_X0_measure_74 rfl ?_
              refine pw_aload_n h 0 d_X0_measure_75 rfl ?_
              refine pw_getR (j := (b + 6)) 0 h d_X0_measure_76 fd_RX0_48 (by assumption) rfl (by assumption) ?_
              refine pw_iconst (x := 0) h d_X0_measure_79 (by decide) ?_
              refine pw_lald (j := 0) h d_X0_measure_80 (by assumption) (px_ix_nI (j := 0) (by decide) (by decide)) ?_
              refine pw_ldc2 h d_X0_measure_81 ck_RX0_82 ?_
              refine pw_aload_n h 0 d_X0_measure_84 rfl ?_
              refine pw_getL 0 h d_X0_measure_85 fd_RX0_30 (by assumption) rfl ?_
              refine pw_lmul h d_X0_measure_88 ?_
              refine pw_aload_n h 0 d_X0_measure_89 rfl ?_
              refine pw_getR (j := (b + 2)) 0 h d_X0_measure_90 fd_RX0_19 (by assumption) rfl (by assumption) ?_
              refine pw_iload_n h 1 d_X0_measure_93 rfl ?_
              refine pw_iald h d_X0_measure_94 (by assumption) (by assumption) ?_
              refine pw_i2l h d_X0_measure_95 ?_
              refine pw_lmul h d_X0_measure_96 ?_
              refine pw_aload_n h 0 d_X0_measure_97 rfl ?_
              refine pw_getR (j := (b + 5)) 0 h d_X0_measure_98 fd_RX0_45 (by assumption) rfl (by assumption) ?_
              refine pw_aload_n h 0 d_X0_measure_101 rfl ?_
              refine pw_getR (j := (b + 1)) 0 h d_X0_measure_102 fd_RX0_15 (by assumption) rfl (by assumption) ?_
              refine pw_iload_n h 1 d_X0_measure_105 rfl ?_
              refine pw_iald h d_X0_measure_106 (by assumption) (by assumption) ?_
              refine pw_lald h d_X0_measure_107 (by assumption) (by assumption) ?_
              refine pw_ladd h d_X0_measure_108 ?_
              refine pw_lmul h d_X0_measure_109 ?_
              refine pw_aload_n h 0 d_X0_measure_110 rfl ?_
              refine pw_callV (As := []) h d_X0_measure_111 mf_X0_firstPush mi_X0_firstPush ml_RX0_84 ⟨by decide, by decide, by decide⟩ (by assumption) rfl rfl (Nat.le_of_ble_eq_true rfl) trivial (c_X0_firstPush hB0) ?_
              refine PKk.ret ?_
              refine pw_aload_n h 0 d_X0_measure_114 rfl ?_
              refine pw_getR (j := (b + 1)) 0 h d_X0_measure_115 fd_RX0_15 (by assumption) rfl (by assumption) ?_
              refine pw_iload_n h 1 d_X0_measure_118 rfl ?_
              refine pw_iald h d_X0_measure_119 (by assumption) (by assumption) ?_
              refine pw_aload_n h 0 d_X0_measure_120 rfl ?_
              refine pw_getR (j := (b + 1)) 0 h d_X0_measure_121 fd_RX0_15 (by assumption) rfl (by assumption) ?_
              refine pw_iconst (x := 0) h d_X0_measure_124 (by decide) ?_
              refine pw_iald (j := 0) h d_X0_measure_125 (by assumption) (px_ix_nI (j := 0) (by decide) (by decide)) ?_
              refine pw_isub h d_X0_measure_126 ?_
              refine pw_i2l h d_X0_measure_127 ?_
              refine pw_callS (As := [.long _]) h d_X0_measure_128 mf_X0_cubeOf st_yX0_cubeOf ml_RX0_88 ⟨by decide, by decide, by decide⟩ rfl rfl (Nat.le_of_ble_eq_true rfl) c_X0_cubeOf ?_
              refine PKk.ret ?_
              refine pw_lmul h d_X0_measure_131 ?_
              refine pw_lsub h d_X0_measure_132 ?_
              refine pw_aload_n h 0 d_X0_measure_133 rfl ?_
              refine pw_callV (As := []) h d_X0_measure_134 mf_X0_secondPush mi_X0_secondPush ml_RX0_92 ⟨by decide, by decide, by decide⟩ (by assumption) rfl rfl (Nat.le_of_ble_eq_true rfl) trivial (c_X0_secondPush hB0) ?_
              refine PKk.ret ?_
              refine pw_aload_n h 0 d_X0_measure_137 rfl ?_
              refine pw_getR (j := (b + 1)) 0 h d_X0_measure_138 fd_RX0_15 (by assumption) rfl (by assumption) ?_
              refine pw_iload_n h 1 d_X0_measure_141 rfl ?_
              refine pw_iald h d_X0_measure_142 (by assumption) (by assumption) ?_
              refine pw_aload_n h 0 d_X0_measure_143 rfl ?_
              refine pw_getR (j := (b + 1)) 0 h d_X0_measure_144 fd_RX0_15 (by assumption) rfl (by assumption) ?_
              refine pw_iconst (x := 1) h d_X0_measure_147 (by decide) ?_
              refine pw_iald (j := 1) h d_X0_measure_148 (by assumption) (px_ix_nI (j := 1) (by decide) (by decide)) ?_
              refine pw_isub h d_X0_measure_149 ?_
              refine pw_i2l h d_X0_measure_150 ?_
              refine pw_callS (As := [.long _]) h d_X0_measure_151 mf_X0_cubeOf st_yX0_cubeOf ml_RX0_88 ⟨by decide, by decide, by decide⟩ rfl rfl (Nat.le_of_ble_eq_true rfl) c_X0_cubeOf ?_
              refine PKk.ret ?_
              refine pw_lmul h d_X0_measure_154 ?_
              refine pw_lsub h d_X0_measure_155 ?_
              refine pw_last h d_X0_measure_156 (by assumption) (by assumption) ?_
              obtain ⟨v1_157, e1_157⟩ : ∃ z : Int32, z = v + (1) := ⟨_, rfl⟩
              refine pw_iinc (lv' := [(1, .int v1_157), (0, .ref b)]) v1_157 h d_X0_measure_157 1 rfl e1_157.symm _ hml (by decide) rfl ?_
              refine pw_goto 62 h d_X0_measure_160 (by decide) ?_
              refine PW.perm [1, 0] rfl ?_
              refine pw_mem rfl ?_ rfl (ih (i + 1) v1_157 (by omega) (by omega) (k_up e1_157 ev))
              refine (congrArg (u2 _ _ _) ?_).trans (u1_stepF (F := lakL I L b (spnL I b 0) pl))
              unfold fpL spL
              rw [mesL_r (show 0 < n - 1 by omega), mesL_o (show b ≠ b + 6 by omega) (show b ≠ b + 7 by omega) (Or.inr (show 5 ≠ 6 by decide)), mesL_o (show b + 5 ≠ b + 6 by omega) (show b + 5 ≠ b + 7 by omega) (Or.inl (by omega)), mesL_o (show b ≠ b + 6 by omega) (show b ≠ b + 7 by omega) (Or.inr (show 7 ≠ 6 by decide)), mesL_o (show b ≠ b + 6 by omega) (show b ≠ b + 7 by omega) (Or.inr (show 8 ≠ 6 by decide))]
              rfl
        refine PW.perm [1, 0] rfl ?_
        refine pw_mem rfl (mesL_0 (by omega)) rfl (cut_62 (n + 1) 0 v1_61 (by omega) (by omega) e1_61)
      · skip
        have hlt := k_lt1 ev hn (by omega) (by omega) c_14
        have hx := k_ix ev (show i < 7 by omega) (by decide)
        have hx1 := k_ix1 ev (show i + 1 < 7 by omega) (by decide)
        refine pw_aload_n h 0 d_X0_measure_17 rfl ?_
        refine pw_getR (j := (b + 6)) 0 h d_X0_measure_18 fd_RX0_48 (by assumption) rfl (by assumption) ?_
        refine pw_iload_n h 1 d_X0_measure_21 rfl ?_
        refine pw_aload_n h 0 d_X0_measure_22 rfl ?_
        refine pw_getR (j := (b + 1)) 0 h d_X0_measure_23 fd_RX0_15 (by assumption) rfl (by assumption) ?_
        refine pw_iload_n h 1 d_X0_measure_26 rfl ?_
        refine pw_iconst (x := 1) h d_X0_measure_27 (by decide) ?_
        refine pw_iadd h d_X0_measure_28 ?_
        refine pw_iald h d_X0_measure_29 (by assumption) (by assumption) ?_
        refine pw_aload_n h 0 d_X0_measure_30 rfl ?_
        refine pw_getR (j := (b + 1)) 0 h d_X0_measure_31 fd_RX0_15 (by assumption) rfl (by assumption) ?_
        refine pw_iload_n h 1 d_X0_measure_34 rfl ?_
        refine pw_iald h d_X0_measure_35 (by assumption) (by assumption) ?_
        refine pw_isub h d_X0_measure_36 ?_
        refine pw_i2l h d_X0_measure_37 ?_
        refine pw_last h d_X0_measure_38 (by assumption) (by assumption) ?_
        refine pw_aload_n h 0 d_X0_measure_39 rfl ?_
        refine pw_dupR h d_X0_measure_40 ?_
        refine pw_getL 0 h d_X0_measure_41 fd_RX0_33 (by assumption) rfl ?_
        refine pw_aload_n h 0 d_X0_measure_44 rfl ?_
        refine pw_getR (j := (b + 6)) 0 h d_X0_measure_45 fd_RX0_48 (by assumption) rfl (by assumption) ?_
        refine pw_iload_n h 1 d_X0_measure_48 rfl ?_
        refine pw_lald h d_X0_measure_49 (by assumption) (by assumption) ?_
        refine pw_lmul h d_X0_measure_50 ?_
        refine pw_putL 0 h d_X0_measure_51 fd_RX0_33 (by assumption) rfl rfl rfl rfl ?_
        obtain ⟨v1_54, e1_54⟩ : ∃ z : Int32, z = v + (1) := ⟨_, rfl⟩
        refine pw_iinc (lv' := [(1, .int v1_54), (0, .ref b)]) v1_54 h d_X0_measure_54 1 rfl e1_54.symm _ hml (by decide) rfl ?_
        refine pw_goto 7 h d_X0_measure_57 (by decide) ?_
        refine PW.perm [1, 0] rfl ?_
        refine pw_mem rfl ?_ rfl (ih (i + 1) v1_54 (by omega) (by omega) (k_up e1_54 ev))
        rw [u2_n1 (by omega), mesL0_6, u2_s]
        exact mesL0_s
  refine PW.perm [1, 0] rfl ?_
  refine pw_mem rfl mesL0_0 rfl (cut_7 n 0 v1_6 (by omega) (by omega) e1_6)
