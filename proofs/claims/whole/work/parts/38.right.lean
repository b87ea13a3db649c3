set_option maxHeartbeats 4000000 in
set_option maxRecDepth 100000 in
theorem c_X8_right {sh : Sh} {I : IM} {L : LM} {R : RM} {m : Nat} (hM : ModF sh R m) {i : Nat} {u : Int32} (eu : u = nI i) (h0 : 0 < i) (hi7 : i + 1 < 7) (hl : ¬ lftX I m i = 0) (ha : ¬ aftX I m i = 0) : PMet M_X8_right [.ref m, .int u] sh I L R (pRet (some (.long (rgtF I m i 13))) sh I L R) := by
  refine PMet.of mf_X8_right (Nat.le_of_ble_eq_true rfl) ?_
  intro X h hr hml
  have hml : (xc X).maxLocals = 11 := hml
  have h : PXok X RX8 cX8_right 1 0 0 := h
  have hr : PXr X (some .long) "right" _ 0 0 := hr
  have hM0 := hM
  obtain ⟨f0, f1, f2, f3, f4, f5, f6, f7, f8, f9, f10, f11, f12, f13, f14, f15, f16, f17, f18, f19, f20, f21, f22, f23, f24, f25, f26, f27, g1, g2, g3, g4, g5, g6, g7, g8, g9, g10, g11, g12, g13, g14, g15, g16, g17, g18, g19, g20, g21, g22, g23, g24, g25, g26, g27⟩ := hM
  have hx := k_ix eu (show i < 7 by omega) (by decide)
  have hx1 := k_ix1 eu hi7 (by decide)
  have hx0 := k_ixm eu h0 (show i - 1 < 7 by omega) (by decide)
  show PW X 0 [(0, .ref m), (1, .int u)] [] sh I L R 0 0
  refine pw_aload_n h 0 d_X8_right_0 rfl ?_
  refine pw_getR (j := (m + 11)) 8 h d_X8_right_1 fd_RX8_48 (by assumption) rfl (by assumption) ?_
  refine pw_iload_n h 1 d_X8_right_4 rfl ?_
  refine pw_iald h d_X8_right_5 (by assumption) (by assumption) ?_
  refine pw_aload_n h 0 d_X8_right_6 rfl ?_
  refine pw_getR (j := (m + 11)) 8 h d_X8_right_7 fd_RX8_48 (by assumption) rfl (by assumption) ?_
  refine pw_iload_n h 1 d_X8_right_10 rfl ?_
  refine pw_iconst (x := 1) h d_X8_right_11 (by decide) ?_
  refine pw_isub h d_X8_right_12 ?_
  refine pw_iald h d_X8_right_13 (by assumption) (by assumption) ?_
  refine pw_isub h d_X8_right_14 ?_
  refine pw_i2l h d_X8_right_15 ?_
  refine pw_nmL (fun v2_16 e2_16 => ?_)
  refine pw_lstore_n (lv' := [(2, .long v2_16), (0, .ref m), (1, .int u)]) h d_X8_right_16 rfl _ hml (by decide) rfl ?_
  have el : v2_16 = lftX I m i := e2_16
  have hl0 : ¬ v2_16 = 0 := by rw [el]; exact hl
  refine pw_aload_n h 1 d_X8_right_17 rfl ?_
  refine pw_getR (j := (m + 11)) 8 h d_X8_right_18 fd_RX8_48 (by assumption) rfl (by assumption) ?_
  refine pw_iload_n h 2 d_X8_right_21 rfl ?_
  refine pw_iconst (x := 1) h d_X8_right_22 (by decide) ?_
  refine pw_iadd h d_X8_right_23 ?_
  refine pw_iald h d_X8_right_24 (by assumption) (by assumption) ?_
  refine pw_aload_n h 1 d_X8_right_25 rfl ?_
  refine pw_getR (j := (m + 11)) 8 h d_X8_right_26 fd_RX8_48 (by assumption) rfl (by assumption) ?_
  refine pw_iload_n h 2 d_X8_right_29 rfl ?_
  refine pw_iald h d_X8_right_30 (by assumption) (by assumption) ?_
  refine pw_isub h d_X8_right_31 ?_
  refine pw_i2l h d_X8_right_32 ?_
  refine pw_nmL (fun v4_33 e4_33 => ?_)
  refine pw_lstore (lv' := [(4, .long v4_33), (2, .long v2_16), (0, .ref m), (1, .int u)]) h d_X8_right_33 _ hml (by decide) rfl ?_
  have ef : v4_33 = aftX I m i := e4_33
  have ha0 : ¬ v4_33 = 0 := by rw [ef]; exact ha
  refine pw_ldc2 h d_X8_right_35 ck_RX8_211 ?_
  refine pw_aload_n h 2 d_X8_right_38 rfl ?_
  refine pw_getI 8 h d_X8_right_39 fd_RX8_28 (by assumption) rfl ?_
  refine pw_i2l h d_X8_right_42 ?_
  refine pw_lmul h d_X8_right_43 ?_
  refine pw_aload_n h 2 d_X8_right_44 rfl ?_
  refine pw_getR (j := (m + 12)) 8 h d_X8_right_45 fd_RX8_51 (by assumption) rfl (by assumption) ?_
  refine pw_iload_n h 3 d_X8_right_48 rfl ?_
  refine pw_iconst (x := 1) h d_X8_right_49 (by decide) ?_
  refine pw_iadd h d_X8_right_50 ?_
  refine pw_iald h d_X8_right_51 (by assumption) (by assumption) ?_
  refine pw_aload_n h 2 d_X8_right_52 rfl ?_
  refine pw_getR (j := (m + 12)) 8 h d_X8_right_53 fd_RX8_51 (by assumption) rfl (by assumption) ?_
  refine pw_iload_n h 3 d_X8_right_56 rfl ?_
  refine pw_iald h d_X8_right_57 (by assumption) (by assumption) ?_
  refine pw_isub h d_X8_right_58 ?_
  refine pw_i2l h d_X8_right_59 ?_
  refine pw_ldc2 h d_X8_right_60 ck_RX8_213 ?_
  refine pw_lload h 0 d_X8_right_63 rfl ?_
  refine pw_ldiv h d_X8_right_65 ha0 ?_
  refine pw_lmul h d_X8_right_66 ?_
  refine pw_aload_n h 2 d_X8_right_67 rfl ?_
  refine pw_getR (j := (m + 12)) 8 h d_X8_right_68 fd_RX8_51 (by assumption) rfl (by assumption) ?_
  refine pw_iload_n h 3 d_X8_right_71 rfl ?_
  refine pw_iald h d_X8_right_72 (by assumption) (by assumption) ?_
  refine pw_aload_n h 2 d_X8_right_73 rfl ?_
  refine pw_getR (j := (m + 12)) 8 h d_X8_right_74 fd_RX8_51 (by assumption) rfl (by assumption) ?_
  refine pw_iload_n h 3 d_X8_right_77 rfl ?_
  refine pw_iconst (x := 1) h d_X8_right_78 (by decide) ?_
  refine pw_isub h d_X8_right_79 ?_
  refine pw_iald h d_X8_right_80 (by assumption) (by assumption) ?_
  refine pw_isub h d_X8_right_81 ?_
  refine pw_i2l h d_X8_right_82 ?_
  refine pw_ldc2 h d_X8_right_83 ck_RX8_213 ?_
  refine pw_lload_n h 1 d_X8_right_86 rfl ?_
  refine pw_ldiv h d_X8_right_87 hl0 ?_
  refine pw_lmul h d_X8_right_88 ?_
  refine pw_lsub h d_X8_right_89 ?_
  refine pw_lmul h d_X8_right_90 ?_
  refine pw_nmL (fun v6_91 e6_91 => ?_)
  refine pw_lstore (lv' := [(6, .long v6_91), (4, .long v4_33), (2, .long v2_16), (0, .ref m), (1, .int u)]) h d_X8_right_91 _ hml (by decide) rfl ?_
  have e0 : v6_91 = rgt0 I m i := by rw [e6_91, el, ef]; rfl
  refine pw_iconst (x := 0) h d_X8_right_93 (by decide) ?_
  refine pw_nmI (fun v8_94 e8_94 => ?_)
  refine pw_istore (lv' := [(8, .int v8_94), (6, .long v6_91), (4, .long v4_33), (2, .long v2_16), (0, .ref m), (1, .int u)]) h d_X8_right_94 _ hml (by decide) rfl ?_
  have cut_96 : ∀ (N p : Nat) (a : Int64) (v : Int32), 13 < p + N → p ≤ 13 → v = nI p → a = rgtF I m i p → PW X 96 [(0, .ref m), (1, .int u), (2, .long v2_16), (4, .long v4_33), (6, .long a), (8, .int v)] [] sh I L R 0 0 := by
    intro N
    induction N with
    | zero => intros; omega
    | succ N ih =>
      intro p a v hN hi ev ea
      refine pw_iload h 5 d_X8_right_96 rfl ?_
      refine pw_bipush (x := 13) h d_X8_right_98 (by decide) ?_
      refine pw_icmp_ge 252 h d_X8_right_100 (by decide) (fun c_100 => ?_) (fun c_100 => ?_)
      · skip
        have hge := k_ge ev (n := 13) rfl (by omega) (by omega) c_100
        have e : p = 13 := by omega
        subst e
        refine pw_lload h 4 d_X8_right_252 rfl ?_
        refine pw_lret h hr d_X8_right_254 (by decide) (by decide) ?_
        exact ⟨by rw [ea], rfl, rfl, rfl, rfl⟩
      · skip
        have hlt := k_lt ev (n := 13) rfl (by omega) (by omega) c_100
        have hxp := k_ix ev hlt (by decide)
        refine pw_iload h 5 d_X8_right_103 rfl ?_
        refine pw_aload_n h 0 d_X8_right_105 rfl ?_
        refine pw_getR (j := (m + 11)) 8 h d_X8_right_106 fd_RX8_48 (by assumption) rfl (by assumption) ?_
        refine pw_iload_n h 1 d_X8_right_109 rfl ?_
        refine pw_iconst (x := 1) h d_X8_right_110 (by decide) ?_
        refine pw_isub h d_X8_right_111 ?_
        refine pw_iald h d_X8_right_112 (by assumption) (by assumption) ?_
        refine pw_icmp_le 173 h d_X8_right_113 (by decide) (fun c_113 => ?_) (fun c_113 => ?_)
        · skip
          have hA : rgtA I m i p = false := decide_eq_false (fun q => nlt_of_ge c_113 (by rw [ev]; exact q.1))
          refine pw_iload h 5 d_X8_right_173 rfl ?_
          refine pw_aload_n h 0 d_X8_right_175 rfl ?_
          refine pw_getR (j := (m + 11)) 8 h d_X8_right_176 fd_RX8_48 (by assumption) rfl (by assumption) ?_
          refine pw_iload_n h 1 d_X8_right_179 rfl ?_
          refine pw_iald h d_X8_right_180 (by assumption) (by assumption) ?_
          refine pw_icmp_le 246 h d_X8_right_181 (by decide) (fun c_181 => ?_) (fun c_181 => ?_)
          · skip
            have hB : rgtB I m i p = false := decide_eq_false (fun q => nlt_of_ge c_181 (by rw [ev]; exact q.1))
            obtain ⟨v8_246, e8_246⟩ : ∃ z : Int32, z = v + (1) := ⟨_, rfl⟩
            refine pw_iinc (lv' := [(8, .int v8_246), (0, .ref m), (1, .int u), (2, .long v2_16), (4, .long v4_33), (6, .long a)]) v8_246 h d_X8_right_246 5 rfl e8_246.symm _ hml (by decide) rfl ?_
            refine pw_goto 96 h d_X8_right_249 (by decide) ?_
            refine PW.perm [1, 2, 3, 4, 5, 0] rfl ?_
            refine ih (p + 1) a v8_246 (by omega) (by omega) (k_up e8_246 ev) ?_
            show _ = rgt2 I m i p (rgt1 I m i p (rgtF I m i p))
            first | rw [rgt1_t hA] | rw [rgt1_f hA]
            first | rw [rgt2_t hB] | rw [rgt2_f hB]
            first | (rw [e6_244, e9_209, e6_171, e9_139, ea, ev, el, ef]; rfl) | (rw [e6_244, e9_209, ea, ev, ef]; rfl) | (rw [e6_171, e9_139, ea, ev, el]; rfl) | exact ea
          · skip
            refine pw_iload h 5 d_X8_right_184 rfl ?_
            refine pw_aload_n h 0 d_X8_right_186 rfl ?_
            refine pw_getR (j := (m + 11)) 8 h d_X8_right_187 fd_RX8_48 (by assumption) rfl (by assumption) ?_
            refine pw_iload_n h 1 d_X8_right_190 rfl ?_
            refine pw_iconst (x := 1) h d_X8_right_191 (by decide) ?_
            refine pw_iadd h d_X8_right_192 ?_
            refine pw_iald h d_X8_right_193 (by assumption) (by assumption) ?_
            refine pw_icmp_ge 246 h d_X8_right_194 (by decide) (fun c_194 => ?_) (fun c_194 => ?_)
            · skip
              have hB : rgtB I m i p = false := decide_eq_false (fun q => nlt_of_ge c_194 (by rw [ev]; exact q.2))
              obtain ⟨v8_246, e8_246⟩ : ∃ z : Int32, z = v + (1) := ⟨_, rfl⟩
              refine pw_iinc (lv' := [(8, .int v8_246), (0, .ref m), (1, .int u), (2, .long v2_16), (4, .long v4_33), (6, .long a)]) v8_246 h d_X8_right_246 5 rfl e8_246.symm _ hml (by decide) rfl ?_
              refine pw_goto 96 h d_X8_right_249 (by decide) ?_
              refine PW.perm [1, 2, 3, 4, 5, 0] rfl ?_
              refine ih (p + 1) a v8_246 (by omega) (by omega) (k_up e8_246 ev) ?_
              show _ = rgt2 I m i p (rgt1 I m i p (rgtF I m i p))
              first | rw [rgt1_t hA] | rw [rgt1_f hA]
              first | rw [rgt2_t hB] | rw [rgt2_f hB]
              first | (rw [e6_244, e9_209, e6_171, e9_139, ea, ev, el, ef]; rfl) | (rw [e6_244, e9_209, ea, ev, ef]; rfl) | (rw [e6_171, e9_139, ea, ev, el]; rfl) | exact ea
            · skip
              have hB : rgtB I m i p = true := decide_eq_true ⟨by rw [← ev]; exact lt_of_nge c_181, by rw [← ev]; exact lt_of_nge c_194⟩
              refine pw_aload_n h 0 d_X8_right_197 rfl ?_
              refine pw_getR (j := (m + 11)) 8 h d_X8_right_198 fd_RX8_48 (by assumption) rfl (by assumption) ?_
              refine pw_iload_n h 1 d_X8_right_201 rfl ?_
              refine pw_iconst (x := 1) h d_X8_right_202 (by decide) ?_
              refine pw_iadd h d_X8_right_203 ?_
              refine pw_iald h d_X8_right_204 (by assumption) (by assumption) ?_
              refine pw_iload h 5 d_X8_right_205 rfl ?_
              refine pw_isub h d_X8_right_207 ?_
              refine pw_i2l h d_X8_right_208 ?_
              refine pw_nmL (fun v9_209 e9_209 => ?_)
              refine pw_lstore (lv' := [(9, .long v9_209), (0, .ref m), (1, .int u), (2, .long v2_16), (4, .long v4_33), (6, .long a), (8, .int v)]) h d_X8_right_209 _ hml (by decide) rfl ?_
              refine pw_lload h 5 d_X8_right_211 rfl ?_
              refine pw_aload_n h 1 d_X8_right_213 rfl ?_
              refine pw_getR (j := (m + 13)) 8 h d_X8_right_214 fd_RX8_54 (by assumption) rfl (by assumption) ?_
              refine pw_iload h 6 d_X8_right_217 rfl ?_
              refine pw_iald h d_X8_right_219 (by assumption) (by assumption) ?_
              refine pw_i2l h d_X8_right_220 ?_
              refine pw_lload h 0 d_X8_right_221 rfl ?_
              refine pw_lmul h d_X8_right_223 ?_
              refine pw_lload h 4 d_X8_right_224 rfl ?_
              refine pw_lload h 0 d_X8_right_226 rfl ?_
              refine pw_lsub h d_X8_right_228 ?_
              refine pw_lmul h d_X8_right_229 ?_
              refine pw_lload h 4 d_X8_right_230 rfl ?_
              refine pw_lload h 0 d_X8_right_232 rfl ?_
              refine pw_ladd h d_X8_right_234 ?_
              refine pw_lmul h d_X8_right_235 ?_
              refine pw_ldc2 h d_X8_right_236 ck_RX8_213 ?_
              refine pw_lload h 4 d_X8_right_239 rfl ?_
              refine pw_ldiv h d_X8_right_241 ha0 ?_
              refine pw_lmul h d_X8_right_242 ?_
              refine pw_lsub h d_X8_right_243 ?_
              refine pw_nmL (fun v6_244 e6_244 => ?_)
              refine pw_lstore (lv' := [(6, .long v6_244), (9, .long v9_209), (0, .ref m), (1, .int u), (2, .long v2_16), (4, .long v4_33), (8, .int v)]) h d_X8_right_244 _ hml (by decide) rfl ?_
              obtain ⟨v8_246, e8_246⟩ : ∃ z : Int32, z = v + (1) := ⟨_, rfl⟩
              refine pw_iinc (lv' := [(8, .int v8_246), (6, .long v6_244), (9, .long v9_209), (0, .ref m), (1, .int u), (2, .long v2_16), (4, .long v4_33)]) v8_246 h d_X8_right_246 6 rfl e8_246.symm _ hml (by decide) rfl ?_
              refine pw_goto 96 h d_X8_right_249 (by decide) ?_
              refine PW.perm [3, 4, 5, 6, 1, 0] rfl ?_
              refine ih (p + 1) v6_244 v8_246 (by omega) (by omega) (k_up e8_246 ev) ?_
              show _ = rgt2 I m i p (rgt1 I m i p (rgtF I m i p))
              first | rw [rgt1_t hA] | rw [rgt1_f hA]
              first | rw [rgt2_t hB] | rw [rgt2_f hB]
              first | (rw [e6_244, e9_209, e6_171, e9_139, ea, ev, el, ef]; rfl) | (rw [e6_244, e9_209, ea, ev, ef]; rfl) | (rw [e6_171, e9_139, ea, ev, el]; rfl) | exact ea
        · skip
          refine pw_iload h 5 d_X8_right_116 rfl ?_
          refine pw_aload_n h 0 d_X8_right_118 rfl ?_
          refine pw_getR (j := (m + 11)) 8 h d_X8_right_119 fd_RX8_48 (by assumption) rfl (by assumption) ?_
          refine pw_iload_n h 1 d_X8_right_122 rfl ?_
          refine pw_iald h d_X8_right_123 (by assumption) (by assumption) ?_
          refine pw_icmp_ge 173 h d_X8_right_124 (by decide) (fun c_124 => ?_) (fun c_124 => ?_)
          · skip
            have hA : rgtA I m i p = false := decide_eq_false (fun q => nlt_of_ge c_124 (by rw [ev]; exact q.2))
            refine pw_iload h 5 d_X8_right_173 rfl ?_
            refine pw_aload_n h 0 d_X8_right_175 rfl ?_
            refine pw_getR (j := (m + 11)) 8 h d_X8_right_176 fd_RX8_48 (by assumption) rfl (by assumption) ?_
            refine pw_iload_n h 1 d_X8_right_179 rfl ?_
            refine pw_iald h d_X8_right_180 (by assumption) (by assumption) ?_
            refine pw_icmp_le 246 h d_X8_right_181 (by decide) (fun c_181 => ?_) (fun c_181 => ?_)
            · skip
              have hB : rgtB I m i p = false := decide_eq_false (fun q => nlt_of_ge c_181 (by rw [ev]; exact q.1))
              obtain ⟨v8_246, e8_246⟩ : ∃ z : Int32, z = v + (1) := ⟨_, rfl⟩
              refine pw_iinc (lv' := [(8, .int v8_246), (0, .ref m), (1, .int u), (2, .long v2_16), (4, .long v4_33), (6, .long a)]) v8_246 h d_X8_right_246 5 rfl e8_246.symm _ hml (by decide) rfl ?_
              refine pw_goto 96 h d_X8_right_249 (by decide) ?_
              refine PW.perm [1, 2, 3, 4, 5, 0] rfl ?_
              refine ih (p + 1) a v8_246 (by omega) (by omega) (k_up e8_246 ev) ?_
              show _ = rgt2 I m i p (rgt1 I m i p (rgtF I m i p))
              first | rw [rgt1_t hA] | rw [rgt1_f hA]
              first | rw [rgt2_t hB] | rw [rgt2_f hB]
              first | (rw [e6_244, e9_209, e6_171, e9_139, ea, ev, el, ef]; rfl) | (rw [e6_244, e9_209, ea, ev, ef]; rfl) | (rw [e6_171, e9_139, ea, ev, el]; rfl) | exact ea
            · skip
              refine pw_iload h 5 d_X8_right_184 rfl ?_
              refine pw_aload_n h 0 d_X8_right_186 rfl ?_
              refine pw_getR (j := (m + 11)) 8 h d_X8_right_187 fd_RX8_48 (by assumption) rfl (by assumption) ?_
              refine pw_iload_n h 1 d_X8_right_190 rfl ?_
              refine pw_iconst (x := 1) h d_X8_right_191 (by decide) ?_
              refine pw_iadd h d_X8_right_192 ?_
              refine pw_iald h d_X8_right_193 (by assumption) (by assumption) ?_
              refine pw_icmp_ge 246 h d_X8_right_194 (by decide) (fun c_194 => ?_) (fun c_194 => ?_)
              · skip
                have hB : rgtB I m i p = false := decide_eq_false (fun q => nlt_of_ge c_194 (by rw [ev]; exact q.2))
                obtain ⟨v8_246, e8_246⟩ : ∃ z : Int32, z = v + (1) := ⟨_, rfl⟩
                refine pw_iinc (lv' := [(8, .int v8_246), (0, .ref m), (1, .int u), (2, .long v2_16), (4, .long v4_33), (6, .long a)]) v8_246 h d_X8_right_246 5 rfl e8_246.symm _ hml (by decide) rfl ?_
                refine pw_goto 96 h d_X8_right_249 (by decide) ?_
                refine PW.perm [1, 2, 3, 4, 5, 0] rfl ?_
                refine ih (p + 1) a v8_246 (by omega) (by omega) (k_up e8_246 ev) ?_
                show _ = rgt2 I m i p (rgt1 I m i p (rgtF I m i p))
                first | rw [rgt1_t hA] | rw [rgt1_f hA]
                first | rw [rgt2_t hB] | rw [rgt2_f hB]
                first | (rw [e6_244, e9_209, e6_171, e9_139, ea, ev, el, ef]; rfl) | (rw [e6_244, e9_209, ea, ev, ef]; rfl) | (rw [e6_171, e9_139, ea, ev, el]; rfl) | exact ea
              · skip
                have hB : rgtB I m i p = true := decide_eq_true ⟨by rw [← ev]; exact lt_of_nge c_181, by rw [← ev]; exact lt_of_nge c_194⟩
                refine pw_aload_n h 0 d_X8_right_197 rfl ?_
                refine pw_getR (j := (m + 11)) 8 h d_X8_right_198 fd_RX8_48 (by assumption) rfl (by assumption) ?_
                refine pw_iload_n h 1 d_X8_right_201 rfl ?_
                refine pw_iconst (x := 1) h d_X8_right_202 (by decide) ?_
                refine pw_iadd h d_X8_right_203 ?_
                refine pw_iald h d_X8_right_204 (by assumption) (by assumption) ?_
                refine pw_iload h 5 d_X8_right_205 rfl ?_
                refine pw_isub h d_X8_right_207 ?_
                refine pw_i2l h d_X8_right_208 ?_
                refine pw_nmL (fun v9_209 e9_209 => ?_)
                refine pw_lstore (lv' := [(9, .long v9_209), (0, .ref m), (1, .int u), (2, .long v2_16), (4, .long v4_33), (6, .long a), (8, .int v)]) h d_X8_right_209 _ hml (by decide) rfl ?_
                refine pw_lload h 5 d_X8_right_211 rfl ?_
                refine pw_aload_n h 1 d_X8_right_213 rfl ?_
                refine pw_getR (j := (m + 13)) 8 h d_X8_right_214 fd_RX8_54 (by assumption) rfl (by assumption) ?_
                refine pw_iload h 6 d_X8_right_217 rfl ?_
                refine pw_iald h d_X8_right_219 (by assumption) (by assumption) ?_
                refine pw_i2l h d_X8_right_220 ?_
                refine pw_lload h 0 d_X8_right_221 rfl ?_
                refine pw_lmul h d_X8_right_223 ?_
                refine pw_lload h 4 d_X8_right_224 rfl ?_
                refine pw_lload h 0 d_X8_right_226 rfl ?_
                refine pw_lsub h d_X8_right_228 ?_
                refine pw_lmul h d_X8_right_229 ?_
                refine pw_lload h 4 d_X8_right_230 rfl ?_
                refine pw_lload h 0 d_X8_right_232 rfl ?_
                refine pw_ladd h d_X8_right_234 ?_
                refine pw_lmul h d_X8_right_235 ?_
                refine pw_ldc2 h d_X8_right_236 ck_RX8_213 ?_
                refine pw_lload h 4 d_X8_right_239 rfl ?_
                refine pw_ldiv h d_X8_right_241 ha0 ?_
                refine pw_lmul h d_X8_right_242 ?_
                refine pw_lsub h d_X8_right_243 ?_
                refine pw_nmL (fun v6_244 e6_244 => ?_)
                refine pw_lstore (lv' := [(6, .long v6_244), (9, .long v9_209), (0, .ref m), (1, .int u), (2, .long v2_16), (4, .long v4_33), (8, .int v)]) h d_X8_right_244 _ hml (by decide) rfl ?_
                obtain ⟨v8_246, e8_246⟩ : ∃ z : Int32, z = v + (1) := ⟨_, rfl⟩
                refine pw_iinc (lv' := [(8, .int v8_246), (6, .long v6_244), (9, .long v9_209), (0, .ref m), (1, .int u), (2, .long v2_16), (4, .long v4_33)]) v8_246 h d_X8_right_246 6 rfl e8_246.symm _ hml (by decide) rfl ?_
                refine pw_goto 96 h d_X8_right_249 (by decide) ?_
                refine PW.perm [3, 4, 5, 6, 1, 0] rfl ?_
                refine ih (p + 1) v6_244 v8_246 (by omega) (by omega) (k_up e8_246 ev) ?_
                show _ = rgt2 I m i p (rgt1 I m i p (rgtF I m i p))
                first | rw [rgt1_t hA] | rw [rgt1_f hA]
                first | rw [rgt2_t hB] | rw [rgt2_f hB]
                first | (rw [e6_244, e9_209, e6_171, e9_139, ea, ev, el, ef]; rfl) | (rw [e6_244, e9_209, ea, ev, ef]; rfl) | (rw [e6_171, e9_139, ea, ev, el]; rfl) | exact ea
          · skip
            have hA : rgtA I m i p = true := decide_eq_true ⟨by rw [← ev]; exact lt_of_nge c_113, by rw [← ev]; exact lt_of_nge c_124⟩
            refine pw_iload h 5 d_X8_right_127 rfl ?_
            refine pw_aload_n h 0 d_X8_right_129 rfl ?_
            refine pw_getR (j := (m + 11)) 8 h d_X8_right_130 fd_RX8_48 (by assumption) rfl (by assumption) ?_
            refine pw_iload_n h 1 d_X8_right_133 rfl ?_
            refine pw_iconst (x := 1) h d_X8_right_134 (by decide) ?_
            refine pw_isub h d_X8_right_135 ?_
            refine pw_iald h d_X8_right_136 (by assumption) (by assumption) ?_
            refine pw_isub h d_X8_right_137 ?_
            refine pw_i2l h d_X8_right_138 ?_
            refine pw_nmL (fun v9_139 e9_139 => ?_)
            refine pw_lstore (lv' := [(9, .long v9_139), (0, .ref m), (1, .int u), (2, .long v2_16), (4, .long v4_33), (6, .long a), (8, .int v)]) h d_X8_right_139 _ hml (by decide) rfl ?_
            refine pw_lload h 5 d_X8_right_141 rfl ?_
            refine pw_aload_n h 1 d_X8_right_143 rfl ?_
            refine pw_getR (j := (m + 13)) 8 h d_X8_right_144 fd_RX8_54 (by assumption) rfl (by assumption) ?_
            refine pw_iload h 6 d_X8_right_147 rfl ?_
            refine pw_iald h d_X8_right_149 (by assumption) (by assumption) ?_
            refine pw_i2l h d_X8_right_150 ?_
            refine pw_lload h 0 d_X8_right_151 rfl ?_
            refine pw_lmul h d_X8_right_153 ?_
            refine pw_lload_n h 3 d_X8_right_154 rfl ?_
            refine pw_lload h 0 d_X8_right_155 rfl ?_
            refine pw_lsub h d_X8_right_157 ?_
            refine pw_lmul h d_X8_right_158 ?_
            refine pw_lload_n h 3 d_X8_right_159 rfl ?_
            refine pw_lload h 0 d_X8_right_160 rfl ?_
            refine pw_ladd h d_X8_right_162 ?_
            refine pw_lmul h d_X8_right_163 ?_
            refine pw_ldc2 h d_X8_right_164 ck_RX8_213 ?_
            refine pw_lload_n h 3 d_X8_right_167 rfl ?_
            refine pw_ldiv h d_X8_right_168 hl0 ?_
            refine pw_lmul h d_X8_right_169 ?_
            refine pw_lsub h d_X8_right_170 ?_
            refine pw_nmL (fun v6_171 e6_171 => ?_)
            refine pw_lstore (lv' := [(6, .long v6_171), (9, .long v9_139), (0, .ref m), (1, .int u), (2, .long v2_16), (4, .long v4_33), (8, .int v)]) h d_X8_right_171 _ hml (by decide) rfl ?_
            refine pw_iload h 6 d_X8_right_173 rfl ?_
            refine pw_aload_n h 2 d_X8_right_175 rfl ?_
            refine pw_getR (j := (m + 11)) 8 h d_X8_right_176 fd_RX8_48 (by assumption) rfl (by assumption) ?_
            refine pw_iload_n h 3 d_X8_right_179 rfl ?_
            refine pw_iald h d_X8_right_180 (by assumption) (by assumption) ?_
            refine pw_icmp_le 246 h d_X8_right_181 (by decide) (fun c_181 => ?_) (fun c_181 => ?_)
            · skip
              have hB : rgtB I m i p = false := decide_eq_false (fun q => nlt_of_ge c_181 (by rw [ev]; exact q.1))
              obtain ⟨v8_246, e8_246⟩ : ∃ z : Int32, z = v + (1) := ⟨_, rfl⟩
              refine pw_iinc (lv' := [(8, .int v8_246), (6, .long v6_171), (9, .long v9_139), (0, .ref m), (1, .int u), (2, .long v2_16), (4, .long v4_33)]) v8_246 h d_X8_right_246 6 rfl e8_246.symm _ hml (by decide) rfl ?_
              refine pw_goto 96 h d_X8_right_249 (by decide) ?_
              refine PW.perm [3, 4, 5, 6, 1, 0] rfl ?_
              refine ih (p + 1) v6_171 v8_246 (by omega) (by omega) (k_up e8_246 ev) ?_
              show _ = rgt2 I m i p (rgt1 I m i p (rgtF I m i p))
              first | rw [rgt1_t hA] | rw [rgt1_f hA]
              first | rw [rgt2_t hB] | rw [rgt2_f hB]
              first | (rw [e6_244, e9_209, e6_171, e9_139, ea, ev, el, ef]; rfl) | (rw [e6_244, e9_209, ea, ev, ef]; rfl) | (rw [e6_171, e9_139, ea, ev, el]; rfl) | exact ea
            · skip
              refine pw_iload h 6 d_X8_right_184 rfl ?_
              refine pw_aload_n h 2 d_X8_right_186 rfl ?_
              refine pw_getR (j := (m + 11)) 8 h d_X8_right_187 fd_RX8_48 (by assumption) rfl (by assumption) ?_
              refine pw_iload_n h 3 d_X8_right_190 rfl ?_
              refine pw_iconst (x := 1) h d_X8_right_191 (by decide) ?_
              refine pw_iadd h d_X8_right_192 ?_
              refine pw_iald h d_X8_right_193 (by assumption) (by assumption) ?_
              refine pw_icmp_ge 246 h d_X8_right_194 (by decide) (fun c_194 => ?_) (fun c_194 => ?_)
              · skip
                have hB : rgtB I m i p = false := decide_eq_false (fun q => nlt_of_ge c_194 (by rw [ev]; exact q.2))
                obtain ⟨v8_246, e8_246⟩ : ∃ z : Int32, z = v + (1) := ⟨_, rfl⟩
                refine pw_iinc (lv' := [(8, .int v8_246), (6, .long v6_171), (9, .long v9_139), (0, .ref m), (1, .int u), (2, .long v2_16), (4, .long v4_33)]) v8_246 h d_X8_right_246 6 rfl e8_246.symm _ hml (by decide) rfl ?_
                refine pw_goto 96 h d_X8_right_249 (by decide) ?_
                refine PW.perm [3, 4, 5, 6, 1, 0] rfl ?_
                refine ih (p + 1) v6_171 v8_246 (by omega) (by omega) (k_up e8_246 ev) ?_
                show _ = rgt2 I m i p (rgt1 I m i p (rgtF I m i p))
                first | rw [rgt1_t hA] | rw [rgt1_f hA]
                first | rw [rgt2_t hB] | rw [rgt2_f hB]
                first | (rw [e6_244, e9_209, e6_171, e9_139, ea, ev, el, ef]; rfl) | (rw [e6_244, e9_209, ea, ev, ef]; rfl) | (rw [e6_171, e9_139, ea, ev, el]; rfl) | exact ea
              · skip
                have hB : rgtB I m i p = true := decide_eq_true ⟨by rw [← ev]; exact lt_of_nge c_181, by rw [← ev]; exact lt_of_nge c_194⟩
                refine pw_aload_n h 2 d_X8_right_197 rfl ?_
                refine pw_getR (j := (m + 11)) 8 h d_X8_right_198 fd_RX8_48 (by assumption) rfl (by assumption) ?_
                refine pw_iload_n h 3 d_X8_right_201 rfl ?_
                refine pw_iconst (x := 1) h d_X8_right_202 (by decide) ?_
                refine pw_iadd h d_X8_right_203 ?_
                refine pw_iald h d_X8_right_204 (by assumption) (by assumption) ?_
                refine pw_iload h 6 d_X8_right_205 rfl ?_
                refine pw_isub h d_X8_right_207 ?_
                refine pw_i2l h d_X8_right_208 ?_
                refine pw_nmL (fun v9_209 e9_209 => ?_)
                refine pw_lstore (lv' := [(9, .long v9_209), (6, .long v6_171), (0, .ref m), (1, .int u), (2, .long v2_16), (4, .long v4_33), (8, .int v)]) h d_X8_right_209 _ hml (by decide) rfl ?_
                refine pw_lload h 1 d_X8_right_211 rfl ?_
                refine pw_aload_n h 2 d_X8_right_213 rfl ?_
                refine pw_getR (j := (m + 13)) 8 h d_X8_right_214 fd_RX8_54 (by assumption) rfl (by assumption) ?_
                refine pw_iload h 6 d_X8_right_217 rfl ?_
                refine pw_iald h d_X8_right_219 (by assumption) (by assumption) ?_
                refine pw_i2l h d_X8_right_220 ?_
                refine pw_lload h 0 d_X8_right_221 rfl ?_
                refine pw_lmul h d_X8_right_223 ?_
                refine pw_lload h 5 d_X8_right_224 rfl ?_
                refine pw_lload h 0 d_X8_right_226 rfl ?_
                refine pw_lsub h d_X8_right_228 ?_
                refine pw_lmul h d_X8_right_229 ?_
                refine pw_lload h 5 d_X8_right_230 rfl ?_
                refine pw_lload h 0 d_X8_right_232 rfl ?_
                refine pw_ladd h d_X8_right_234 ?_
                refine pw_lmul h d_X8_right_235 ?_
                refine pw_ldc2 h d_X8_right_236 ck_RX8_213 ?_
                refine pw_lload h 5 d_X8_right_239 rfl ?_
                refine pw_ldiv h d_X8_right_241 ha0 ?_
                refine pw_lmul h d_X8_right_242 ?_
                refine pw_lsub h d_X8_right_243 ?_
                refine pw_nmL (fun v6_244 e6_244 => ?_)
                refine pw_lstore (lv' := [(6, .long v6_244), (9, .long v9_209), (0, .ref m), (1, .int u), (2, .long v2_16), (4, .long v4_33), (8, .int v)]) h d_X8_right_244 _ hml (by decide) rfl ?_
                obtain ⟨v8_246, e8_246⟩ : ∃ z : Int32, z = v + (1) := ⟨_, rfl⟩
                refine pw_iinc (lv' := [(8, .int v8_246), (6, .long v6_244), (9, .long v9_209), (0, .ref m), (1, .int u), (2, .long v2_16), (4, .long v4_33)]) v8_246 h d_X8_right_246 6 rfl e8_246.symm _ hml (by decide) rfl ?_
                refine pw_goto 96 h d_X8_right_249 (by decide) ?_
                refine PW.perm [3, 4, 5, 6, 1, 0] rfl ?_
                refine ih (p + 1) v6_244 v8_246 (by omega) (by omega) (k_up e8_246 ev) ?_
                show _ = rgt2 I m i p (rgt1 I m i p (rgtF I m i p))
                first | rw [rgt1_t hA] | rw [rgt1_f hA]
                first | rw [rgt2_t hB] | rw [rgt2_f hB]
                first | (rw [e6_244, e9_209, e6_171, e9_139, ea, ev, el, ef]; rfl) | (rw [e6_244, e9_209, ea, ev, ef]; rfl) | (rw [e6_171, e9_139, ea, ev, el]; rfl) | exact ea
  refine PW.perm [4, 5, 3, 2, 1, 0] rfl ?_
  exact cut_96 14 0 v6_91 v8_94 (by omega) (by omega) e8_94 e0
