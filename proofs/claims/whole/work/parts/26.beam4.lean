set_option maxHeartbeats 4000000 in
set_option maxRecDepth 100000 in
theorem c_X0_findBends {sh : Sh} {I : IM} {L : LM} {R : RM} {b : Nat} (hB : BeamF sh R b) {n : Nat} (hn : I b 0 = nI n) (h7 : n ≤ 7) (h2 : 2 ≤ n) {sp : Nat → Int64} (hsp : ∀ k, k < n - 1 → L (b + 6) k = sp k) : PMet M_X0_findBends [.ref b] sh I L R (pRet none sh I (r2 L (b + 8) (trnS (L b 6) sp (L (b + 7)) (L (b + 8)) (n - 2)) (b + 9) (outG sp (L (b + 10)) (L (b + 11)) (trnS (L b 6) sp (L (b + 7)) (L (b + 8)) (n - 2)) (n - 2) (bd0 (L (b + 9)) (n - 2)) (n - 2))) R) := by
  refine PMet.of mf_X0_findBends (Nat.le_of_ble_eq_true rfl) ?_
  intro X h hr hml
  have hml : (xc X).maxLocals = 8 := hml
  have h : PXok X RX0 cX0_findBends 2 0 0 := h
  have hr : PXr X none "findBends" _ 0 0 := hr
  have hB0 := hB
  obtain ⟨f0, f1, f2, f3, f4, f5, f6, f7, f8, f9, f10, f11, g1, g2, g3, g9, g10, g11, g12, g13, g14, g15, g16⟩ := hB
  show PW X 0 [(0, .ref b)] [] sh I L R 0 0
  refine pw_aload_n h 0 d_X0_findBends_0 rfl ?_
  refine pw_getI 0 h d_X0_findBends_1 fd_RX0_9 (by assumption) rfl ?_
  refine pw_iconst (x := 2) h d_X0_findBends_4 (by decide) ?_
  refine pw_isub h d_X0_findBends_5 ?_
  refine pw_nmI (fun v1_6 e1_6 => ?_)
  refine pw_istore_n (lv' := [(1, .int v1_6), (0, .ref b)]) h d_X0_findBends_6 rfl _ hml (by decide) rfl ?_
  have el : v1_6 = nI (n - 2) := by rw [e1_6, hn]; exact pk_sub (b := 2) h2
  refine pw_iconst (x := 1) h d_X0_findBends_7 (by decide) ?_
  refine pw_nmI (fun v2_8 e2_8 => ?_)
  refine pw_istore_n (lv' := [(2, .int v2_8), (1, .int v1_6), (0, .ref b)]) h d_X0_findBends_8 rfl _ hml (by decide) rfl ?_
  have cut_9 : ∀ (N r : Nat) (v : Int32), n - 2 < r + N → r ≤ n - 2 → v = nI (r + 1) → PW X 9 [(0, .ref b), (1, .int v1_6), (2, .int v)] [] sh I (r2 L (b + 8) (trnS (L b 6) sp (L (b + 7)) (L (b + 8)) r) (b + 9) (bd0 (L (b + 9)) r)) R 0 0 := by
    intro N
    induction N with
    | zero => intros; omega
    | succ N ih =>
      intro r v hN hi ev
      refine pw_iload_n h 2 d_X0_findBends_9 rfl ?_
      refine pw_iload_n h 1 d_X0_findBends_10 rfl ?_
      refine pw_icmp_gt 94 h d_X0_findBends_11 (by decide) (fun c_11 => ?_) (fun c_11 => ?_)
      · skip
        have hge : n - 2 < r + 1 := k_lt2 el ev (by omega) (by omega) c_11
        have e : r = n - 2 := by omega
        subst e
        refine pw_iconst (x := 1) h d_X0_findBends_94 (by decide) ?_
        refine pw_nmI (fun v2_95 e2_95 => ?_)
        refine pw_istore_n (lv' := [(2, .int v2_95), (0, .ref b), (1, .int v1_6)]) h d_X0_findBends_95 rfl _ hml (by decide) rfl ?_
        have cut_96 : ∀ (N r : Nat) (v : Int32), n - 2 < r + N → r ≤ n - 2 → v = nI (r + 1) → PW X 96 [(0, .ref b), (1, .int v1_6), (2, .int v)] [] sh I (r2 L (b + 8) (trnS (L b 6) sp (L (b + 7)) (L (b + 8)) (n - 2)) (b + 9) (outG sp (L (b + 10)) (L (b + 11)) (trnS (L b 6) sp (L (b + 7)) (L (b + 8)) (n - 2)) (n - 2) (bd0 (L (b + 9)) (n - 2)) r)) R 0 0 := by
          intro N
          induction N with
          | zero => intros; omega
          | succ N iho =>
            intro r v hN hi ev
            refine pw_iload_n h 2 d_X0_findBends_96 rfl ?_
            refine pw_iload_n h 1 d_X0_findBends_97 rfl ?_
            refine pw_icmp_gt 199 h d_X0_findBends_98 (by decide) (fun c_98 => ?_) (fun c_98 => ?_)
            · skip
              have hge : n - 2 < r + 1 := k_lt2 el ev (by omega) (by omega) c_98
              have e : r = n - 2 := by omega
              subst e
              refine pw_vret h hr d_X0_findBends_199 (by decide) (by decide) ?_
              exact ⟨rfl, rfl, rfl, rfl, rfl⟩
            · skip
              have hlt : r + 1 ≤ n - 2 := k_ge2 el ev (by omega) (by omega) c_98
              have hx := k_ix ev (show r + 1 < 7 by omega) (by decide)
              have hx1 := k_ixm ev (show 0 < r + 1 by omega) (show r + 1 - 1 < 7 by omega) (by decide)
              refine pw_aload_n h 0 d_X0_findBends_101 rfl ?_
              refine pw_getR (j := (b + 10)) 0 h d_X0_findBends_102 fd_RX0_60 (by assumption) rfl (by assumption) ?_
              refine pw_iload_n h 2 d_X0_findBends_105 rfl ?_
              refine pw_iconst (x := 1) h d_X0_findBends_106 (by decide) ?_
              refine pw_isub h d_X0_findBends_107 ?_
              refine pw_lald h d_X0_findBends_108 (by assumption) (by assumption) ?_
              refine pw_nmL (fun v3_109 e3_109 => ?_)
              refine pw_lstore_n (lv' := [(3, .long v3_109), (0, .ref b), (1, .int v1_6), (2, .int v)]) h d_X0_findBends_109 rfl _ hml (by decide) rfl ?_
              refine pw_iload_n h 3 d_X0_findBends_110 rfl ?_
              refine pw_nmI (fun v5_111 e5_111 => ?_)
              refine pw_istore (lv' := [(5, .int v5_111), (3, .long v3_109), (0, .ref b), (1, .int v1_6), (2, .int v)]) h d_X0_findBends_111 _ hml (by decide) rfl ?_
              have cut_113 : ∀ (N m : Nat) (ch : Int64) (c : Int32), n - 2 - r < m + N → m ≤ n - 2 - r → c = nI (r + 1 + m) → ch = innC sp (L (b + 10)) (r + 1) m → PW X 113 [(0, .ref b), (1, .int v1_6), (2, .int v), (3, .long ch), (5, .int c)] [] sh I (r2 L (b + 8) (trnS (L b 6) sp (L (b + 7)) (L (b + 8)) (n - 2)) (b + 9) (innG sp (L (b + 10)) (L (b + 11)) (trnS (L b 6) sp (L (b + 7)) (L (b + 8)) (n - 2)) (r + 1) (outG sp (L (b + 10)) (L (b + 11)) (trnS (L b 6) sp (L (b + 7)) (L (b + 8)) (n - 2)) (n - 2) (bd0 (L (b + 9)) (n - 2)) r) m)) R 0 0 := by
                intro N
                induction N with
                | zero => intros; omega
                | succ N ih =>
                  intro m ch c hM hm ec ech
                  refine pw_iload h 4 d_X0_findBends_113 rfl ?_
                  refine pw_iload_n h 1 d_X0_findBends_115 rfl ?_
                  refine pw_icmp_gt 193 h d_X0_findBends_116 (by decide) (fun c_116 => ?_) (fun c_116 => ?_)
                  · skip
                    have hge2 : n - 2 < r + 1 + m := k_lt2 el ec (by omega) (by omega) c_116
                    have e : m = n - 2 - r := by omega
                    subst e
                    obtain ⟨v2_193, e2_193⟩ : ∃ z : Int32, z = v + (1) := ⟨_, rfl⟩
                    refine pw_iinc (lv' := [(2, .int v2_193), (0, .ref b), (1, .int v1_6), (3, .long ch), (5, .int c)]) v2_193 h d_X0_findBends_193 2 rfl e2_193.symm _ hml (by decide) rfl ?_
                    refine pw_goto 96 h d_X0_findBends_196 (by decide) ?_
                    refine PW.perm [1, 2, 0] rfl ?_
                    exact iho (r + 1) v2_193 (by omega) (by omega) (k_up e2_193 ev)
                  · skip
                    have hlt2 : r + 1 + m ≤ n - 2 := k_ge2 el ec (by omega) (by omega) c_116
                    have hy := k_ix ec (show r + 1 + m < 7 by omega) (by decide)
                    have hy1 := k_ix1 ec (show r + 1 + m + 1 < 7 by omega) (by decide)
                    refine pw_lload_n h 3 d_X0_findBends_119 rfl ?_
                    refine pw_aload_n h 0 d_X0_findBends_120 rfl ?_
                    refine pw_getR (j := (b + 11)) 0 h d_X0_findBends_121 fd_RX0_63 (by assumption) rfl (by assumption) ?_
                    refine pw_iload h 4 d_X0_findBends_124 rfl ?_
                    refine pw_iconst (x := 1) h d_X0_findBends_126 (by decide) ?_
                    refine pw_iadd h d_X0_findBends_127 ?_
                    refine pw_lald h d_X0_findBends_128 (by assumption) (by assumption) ?_
                    refine pw_lmul h d_X0_findBends_129 ?_
                    refine pw_nmL (fun v6_130 e6_130 => ?_)
                    refine pw_lstore (lv' := [(6, .long v6_130), (0, .ref b), (1, .int v1_6), (2, .int v), (3, .long ch), (5, .int c)]) h d_X0_findBends_130 _ hml (by decide) rfl ?_
                    refine pw_aload_n h 1 d_X0_findBends_132 rfl ?_
                    refine pw_getR (j := (b + 9)) 0 h d_X0_findBends_133 fd_RX0_57 (by assumption) rfl (by assumption) ?_
                    refine pw_iload_n h 3 d_X0_findBends_136 rfl ?_
                    refine pw_dup2RI h d_X0_findBends_137 ?_
                    refine pw_lald h d_X0_findBends_138 (by assumption) (by assumption) ?_
                    refine pw_lload h 0 d_X0_findBends_139 rfl ?_
                    refine pw_aload_n h 1 d_X0_findBends_141 rfl ?_
                    refine pw_getR (j := (b + 8)) 0 h d_X0_findBends_142 fd_RX0_54 (by assumption) rfl (by assumption) ?_
                    refine pw_iload h 5 d_X0_findBends_145 rfl ?_
                    refine pw_lald h d_X0_findBends_147 (by assumption) (by assumption) ?_
                    refine pw_lmul h d_X0_findBends_148 ?_
                    refine pw_ladd h d_X0_findBends_149 ?_
                    refine pw_last h d_X0_findBends_150 (by assumption) (by assumption) ?_
                    refine pw_iload h 5 d_X0_findBends_151 rfl ?_
                    refine pw_iload_n h 3 d_X0_findBends_153 rfl ?_
                    refine pw_icmp_le 176 h d_X0_findBends_154 (by decide) (fun c_154 => ?_) (fun c_154 => ?_)
                    · skip
                      have hgt : ¬ r + 1 < r + 1 + m := by have := k_ge ev ec (by omega) (by omega) c_154; omega
                      refine pw_lload_n h 4 d_X0_findBends_176 rfl ?_
                      refine pw_aload_n h 1 d_X0_findBends_177 rfl ?_
                      refine pw_getR (j := (b + 6)) 0 h d_X0_findBends_178 fd_RX0_48 (by assumption) rfl (by assumption) ?_
                      refine pw_iload h 5 d_X0_findBends_181 rfl ?_
                      refine pw_lald h d_X0_findBends_183 (by assumption) (by assumption) ?_
                      refine pw_lneg h d_X0_findBends_184 ?_
                      refine pw_lmul h d_X0_findBends_185 ?_
                      refine pw_nmL (fun v3_186 e3_186 => ?_)
                      refine pw_lstore_n (lv' := [(3, .long v3_186), (6, .long v6_130), (0, .ref b), (1, .int v1_6), (2, .int v), (5, .int c)]) h d_X0_findBends_186 rfl _ hml (by decide) rfl ?_
                      obtain ⟨v5_187, e5_187⟩ : ∃ z : Int32, z = c + (1) := ⟨_, rfl⟩
                      refine pw_iinc (lv' := [(5, .int v5_187), (3, .long v3_186), (6, .long v6_130), (0, .ref b), (1, .int v1_6), (2, .int v)]) v5_187 h d_X0_findBends_187 5 rfl e5_187.symm _ hml (by decide) rfl ?_
                      refine pw_goto 113 h d_X0_findBends_190 (by decide) ?_
                      refine PW.perm [3, 4, 5, 1, 0] rfl ?_
                      refine pw_mem rfl ?_ rfl (ih (m + 1) v3_186 v5_187 (by omega) (by omega) (k_up e5_187 ec) (by rw [e3_186, ech]; simp only [r2_o (show b + 6 ≠ b + 8 by omega) (show b + 6 ≠ b + 9 by omega), r2_o (show b + 7 ≠ b + 8 by omega) (show b + 7 ≠ b + 9 by omega), r2_o (show b ≠ b + 8 by omega) (show b ≠ b + 9 by omega), r2_o (show b + 10 ≠ b + 8 by omega) (show b + 10 ≠ b + 9 by omega), r2_o (show b + 11 ≠ b + 8 by omega) (show b + 11 ≠ b + 9 by omega), r2_1, r2_2 (show b + 9 ≠ b + 8 by omega), r2_s2 (show b + 9 ≠ b + 8 by omega)]; rw [hsp _ (by omega)]; rfl))
                      simp only [r2_s2 (show b + 9 ≠ b + 8 by omega), r2_o (show b + 6 ≠ b + 8 by omega) (show b + 6 ≠ b + 9 by omega), r2_o (show b + 7 ≠ b + 8 by omega) (show b + 7 ≠ b + 9 by omega), r2_o (show b ≠ b + 8 by omega) (show b ≠ b + 9 by omega), r2_o (show b + 10 ≠ b + 8 by omega) (show b + 10 ≠ b + 9 by omega), r2_o (show b + 11 ≠ b + 8 by omega) (show b + 11 ≠ b + 9 by omega), r2_1, r2_2 (show b + 9 ≠ b + 8 by omega)]
                      rw [e6_130, ech]
                      simp only [r2_o (show b + 6 ≠ b + 8 by omega) (show b + 6 ≠ b + 9 by omega), r2_o (show b + 7 ≠ b + 8 by omega) (show b + 7 ≠ b + 9 by omega), r2_o (show b ≠ b + 8 by omega) (show b ≠ b + 9 by omega), r2_o (show b + 10 ≠ b + 8 by omega) (show b + 10 ≠ b + 9 by omega), r2_o (show b + 11 ≠ b + 8 by omega) (show b + 11 ≠ b + 9 by omega), r2_1, r2_2 (show b + 9 ≠ b + 8 by omega)]
                      first
                        | (show _ = r2 L (b + 8) _ (b + 9) (stpB _ _ (r + 1) (r + 1 + m) _); unfold stpB; rw [if_pos hgt])
                        | (show _ = r2 L (b + 8) _ (b + 9) (stpB _ _ (r + 1) (r + 1 + m) _); unfold stpB; rw [if_neg hgt])
                    · skip
                      have hgt : r + 1 < r + 1 + m := k_lt ev ec (by omega) (by omega) c_154
                      refine pw_aload_n h 1 d_X0_findBends_157 rfl ?_
                      refine pw_getR (j := (b + 9)) 0 h d_X0_findBends_158 fd_RX0_57 (by assumption) rfl (by assumption) ?_
                      refine pw_iload h 5 d_X0_findBends_161 rfl ?_
                      refine pw_dup2RI h d_X0_findBends_163 ?_
                      refine pw_lald h d_X0_findBends_164 (by assumption) (by assumption) ?_
                      refine pw_lload h 0 d_X0_findBends_165 rfl ?_
                      refine pw_aload_n h 1 d_X0_findBends_167 rfl ?_
                      refine pw_getR (j := (b + 8)) 0 h d_X0_findBends_168 fd_RX0_54 (by assumption) rfl (by assumption) ?_
                      refine pw_iload_n h 3 d_X0_findBends_171 rfl ?_
                      refine pw_lald h d_X0_findBends_172 (by assumption) (by assumption) ?_
                      refine pw_lmul h d_X0_findBends_173 ?_
                      refine pw_ladd h d_X0_findBends_174 ?_
                      refine pw_last h d_X0_findBends_175 (by assumption) (by assumption) ?_
                      refine pw_lload_n h 4 d_X0_findBends_176 rfl ?_
                      refine pw_aload_n h 1 d_X0_findBends_177 rfl ?_
                      refine pw_getR (j := (b + 6)) 0 h d_X0_findBends_178 fd_RX0_48 (by assumption) rfl (by assumption) ?_
                      refine pw_iload h 5 d_X0_findBends_181 rfl ?_
                      refine pw_lald h d_X0_findBends_183 (by assumption) (by assumption) ?_
                      refine pw_lneg h d_X0_findBends_184 ?_
                      refine pw_lmul h d_X0_findBends_185 ?_
                      refine pw_nmL (fun v3_186 e3_186 => ?_)
                      refine pw_lstore_n (lv' := [(3, .long v3_186), (6, .long v6_130), (0, .ref b), (1, .int v1_6), (2, .int v), (5, .int c)]) h d_X0_findBends_186 rfl _ hml (by decide) rfl ?_
                      obtain ⟨v5_187, e5_187⟩ : ∃ z : Int32, z = c + (1) := ⟨_, rfl⟩
                      refine pw_iinc (lv' := [(5, .int v5_187), (3, .long v3_186), (6, .long v6_130), (0, .ref b), (1, .int v1_6), (2, .int v)]) v5_187 h d_X0_findBends_187 5 rfl e5_187.symm _ hml (by decide) rfl ?_
                      refine pw_goto 113 h d_X0_findBends_190 (by decide) ?_
                      refine PW.perm [3, 4, 5, 1, 0] rfl ?_
                      refine pw_mem rfl ?_ rfl (ih (m + 1) v3_186 v5_187 (by omega) (by omega) (k_up e5_187 ec) (by rw [e3_186, ech]; simp only [r2_o (show b + 6 ≠ b + 8 by omega) (show b + 6 ≠ b + 9 by omega), r2_o (show b + 7 ≠ b + 8 by omega) (show b + 7 ≠ b + 9 by omega), r2_o (show b ≠ b + 8 by omega) (show b ≠ b + 9 by omega), r2_o (show b + 10 ≠ b + 8 by omega) (show b + 10 ≠ b + 9 by omega), r2_o (show b + 11 ≠ b + 8 by omega) (show b + 11 ≠ b + 9 by omega), r2_1, r2_2 (show b + 9 ≠ b + 8 by omega), r2_s2 (show b + 9 ≠ b + 8 by omega)]; rw [hsp _ (by omega)]; rfl))
                      simp only [r2_s2 (show b + 9 ≠ b + 8 by omega), r2_o (show b + 6 ≠ b + 8 by omega) (show b + 6 ≠ b + 9 by omega), r2_o (show b + 7 ≠ b + 8 by omega) (show b + 7 ≠ b + 9 by omega), r2_o (show b ≠ b + 8 by omega) (show b ≠ b + 9 by omega), r2_o (show b + 10 ≠ b + 8 by omega) (show b + 10 ≠ b + 9 by omega), r2_o (show b + 11 ≠ b + 8 by omega) (show b + 11 ≠ b + 9 by omega), r2_1, r2_2 (show b + 9 ≠ b + 8 by omega)]
                      rw [e6_130, ech]
                      simp only [r2_o (show b + 6 ≠ b + 8 by omega) (show b + 6 ≠ b + 9 by omega), r2_o (show b + 7 ≠ b + 8 by omega) (show b + 7 ≠ b + 9 by omega), r2_o (show b ≠ b + 8 by omega) (show b ≠ b + 9 by omega), r2_o (show b + 10 ≠ b + 8 by omega) (show b + 10 ≠ b + 9 by omega), r2_o (show b + 11 ≠ b + 8 by omega) (show b + 11 ≠ b + 9 by omega), r2_1, r2_2 (show b + 9 ≠ b + 8 by omega)]
                      first
                        | (show _ = r2 L (b + 8) _ (b + 9) (stpB _ _ (r + 1) (r + 1 + m) _); unfold stpB; rw [if_pos hgt])
                        | (show _ = r2 L (b + 8) _ (b + 9) (stpB _ _ (r + 1) (r + 1 + m) _); unfold stpB; rw [if_neg hgt])
              refine PW.perm [2, 3, 4, 1, 0] rfl ?_
              exact cut_113 (n + 1) 0 v3_109 v5_111 (by omega) (by omega) (by rw [e5_111, ev]; try rfl) (by rw [e3_109]; simp only [r2_o (show b + 6 ≠ b + 8 by omega) (show b + 6 ≠ b + 9 by omega), r2_o (show b + 7 ≠ b + 8 by omega) (show b + 7 ≠ b + 9 by omega), r2_o (show b ≠ b + 8 by omega) (show b ≠ b + 9 by omega), r2_o (show b + 10 ≠ b + 8 by omega) (show b + 10 ≠ b + 9 by omega), r2_o (show b + 11 ≠ b + 8 by omega) (show b + 11 ≠ b + 9 by omega), r2_1, r2_2 (show b + 9 ≠ b + 8 by omega)]; try rfl)
        refine PW.perm [1, 2, 0] rfl ?_
        exact cut_96 (n + 1) 0 v2_95 (by omega) (by omega) (by rw [e2_95]; rfl)
      · skip
        have hlt : r + 1 ≤ n - 2 := k_ge2 el ev (by omega) (by omega) c_11
        have hx := k_ix ev (show r + 1 < 7 by omega) (by decide)
        have hx1 := k_ixm ev (show 0 < r + 1 by omega) (show r + 1 - 1 < 7 by omega) (by decide)
        have hx3 := k_ix1 ev (show r + 1 + 1 < 7 by omega) (by decide)
        refine pw_aload_n h 0 d_X0_findBends_14 rfl ?_
        refine pw_getR (j := (b + 8)) 0 h d_X0_findBends_15 fd_RX0_54 (by assumption) rfl (by assumption) ?_
        refine pw_iload_n h 2 d_X0_findBends_18 rfl ?_
        refine pw_aload_n h 0 d_X0_findBends_19 rfl ?_
        refine pw_getL 0 h d_X0_findBends_20 fd_RX0_33 (by assumption) rfl ?_
        refine pw_aload_n h 0 d_X0_findBends_23 rfl ?_
        refine pw_getR (j := (b + 6)) 0 h d_X0_findBends_24 fd_RX0_48 (by assumption) rfl (by assumption) ?_
        refine pw_iload_n h 2 d_X0_findBends_27 rfl ?_
        refine pw_iconst (x := 1) h d_X0_findBends_28 (by decide) ?_
        refine pw_isub h d_X0_findBends_29 ?_
        refine pw_lald h d_X0_findBends_30 (by assumption) (by assumption) ?_
        refine pw_callSN (As := [.long _, .long _]) h d_X0_findBends_31 mf_X7_cut st_yX7_cut nw_RX0_95 ⟨by decide, by decide, by decide⟩ rfl rfl (Nat.le_of_ble_eq_true rfl) c_X7_cut ?_
        refine PKk.ret ?_
        refine pw_aload_n h 0 d_X0_findBends_34 rfl ?_
        refine pw_getR (j := (b + 7)) 0 h d_X0_findBends_35 fd_RX0_51 (by assumption) rfl (by assumption) ?_
        refine pw_iload_n h 2 d_X0_findBends_38 rfl ?_
        refine pw_iconst (x := 1) h d_X0_findBends_39 (by decide) ?_
        refine pw_isub h d_X0_findBends_40 ?_
        refine pw_lald h d_X0_findBends_41 (by assumption) (by assumption) ?_
        refine pw_aload_n h 0 d_X0_findBends_42 rfl ?_
        refine pw_getR (j := (b + 7)) 0 h d_X0_findBends_43 fd_RX0_51 (by assumption) rfl (by assumption) ?_
        refine pw_iload_n h 2 d_X0_findBends_46 rfl ?_
        refine pw_lald h d_X0_findBends_47 (by assumption) (by assumption) ?_
        refine pw_lsub h d_X0_findBends_48 ?_
        refine pw_lmul h d_X0_findBends_49 ?_
        refine pw_aload_n h 0 d_X0_findBends_50 rfl ?_
        refine pw_getL 0 h d_X0_findBends_51 fd_RX0_33 (by assumption) rfl ?_
        refine pw_aload_n h 0 d_X0_findBends_54 rfl ?_
        refine pw_getR (j := (b + 6)) 0 h d_X0_findBends_55 fd_RX0_48 (by assumption) rfl (by assumption) ?_
        refine pw_iload_n h 2 d_X0_findBends_58 rfl ?_
        refine pw_lald h d_X0_findBends_59 (by assumption) (by assumption) ?_
        refine pw_callSN (As := [.long _, .long _]) h d_X0_findBends_60 mf_X7_cut st_yX7_cut nw_RX0_95 ⟨by decide, by decide, by decide⟩ rfl rfl (Nat.le_of_ble_eq_true rfl) c_X7_cut ?_
        refine PKk.ret ?_
        refine pw_aload_n h 0 d_X0_findBends_63 rfl ?_
        refine pw_getR (j := (b + 7)) 0 h d_X0_findBends_64 fd_RX0_51 (by assumption) rfl (by assumption) ?_
        refine pw_iload_n h 2 d_X0_findBends_67 rfl ?_
        refine pw_iconst (x := 1) h d_X0_findBends_68 (by decide) ?_
        refine pw_iadd h d_X0_findBends_69 ?_
        refine pw_lald h d_X0_findBends_70 (by assumption) (by assumption) ?_
        refine pw_aload_n h 0 d_X0_findBends_71 rfl ?_
        refine pw_getR (j := (b + 7)) 0 h d_X0_findBends_72 fd_RX0_51 (by assumption) rfl (by assumption) ?_
        refine pw_iload_n h 2 d_X0_findBends_75 rfl ?_
        refine pw_lald h d_X0_findBends_76 (by assumption) (by assumption) ?_
        refine pw_lsub h d_X0_findBends_77 ?_
        refine pw_lmul h d_X0_findBends_78 ?_
        refine pw_ladd h d_X0_findBends_79 ?_
        refine pw_last h d_X0_findBends_80 (by assumption) (by assumption) ?_
        refine pw_aload_n h 0 d_X0_findBends_81 rfl ?_
        refine pw_getR (j := (b + 9)) 0 h d_X0_findBends_82 fd_RX0_57 (by assumption) rfl (by assumption) ?_
        refine pw_iload_n h 2 d_X0_findBends_85 rfl ?_
        refine pw_lconst (x := 0) h d_X0_findBends_86 (by decide) ?_
        refine pw_last h d_X0_findBends_87 (by assumption) (by assumption) ?_
        obtain ⟨v2_88, e2_88⟩ : ∃ z : Int32, z = v + (1) := ⟨_, rfl⟩
        refine pw_iinc (lv' := [(2, .int v2_88), (0, .ref b), (1, .int v1_6)]) v2_88 h d_X0_findBends_88 2 rfl e2_88.symm _ hml (by decide) rfl ?_
        refine pw_goto 9 h d_X0_findBends_91 (by decide) ?_
        refine PW.perm [1, 2, 0] rfl ?_
        refine pw_mem rfl ?_ rfl (ih (r + 1) v2_88 (by omega) (by omega) (k_up e2_88 ev))
        rw [r2_s1, r2_s2 (by omega)]
        simp only [r2_o (show b + 6 ≠ b + 8 by omega) (show b + 6 ≠ b + 9 by omega), r2_o (show b + 7 ≠ b + 8 by omega) (show b + 7 ≠ b + 9 by omega), r2_o (show b ≠ b + 8 by omega) (show b ≠ b + 9 by omega), r2_o (show b + 10 ≠ b + 8 by omega) (show b + 10 ≠ b + 9 by omega), r2_o (show b + 11 ≠ b + 8 by omega) (show b + 11 ≠ b + 9 by omega), r2_1, r2_2 (show b + 9 ≠ b + 8 by omega)]
        rw [hsp _ (by omega), hsp _ (by omega)]
        rfl
  refine PW.perm [2, 1, 0] rfl ?_
  refine pw_mem rfl r2_0 rfl (cut_9 (n + 1) 0 v2_8 (by omega) (by omega) (by rw [e2_8]; rfl))

set_option maxHeartbeats 4000000 in
set_option maxRecDepth 100000 in
theorem c_X0_findPushes {sh : Sh} {I : IM} {L : LM} {R : RM} {b : Nat} (hB : BeamF sh R b) {n : Nat} (hn : I b 0 = nI n) (h7 : n ≤ 7) (h2 : 2 ≤ n) {sp : Nat → Int64} (hsp : ∀ k, k < n - 1 → L (b + 6) k = sp k) : PMet M_X0_findPushes [.ref b] sh I L R (pRet none sh I (u1 (u2 L b 4 ((L (b + 10) (n - 2) * L b 6 * L b 6) * sp 0)) (b + 3) (pFin (L b 6) sp (L (b + 9)) (vp_updL (vp_updL (pz0 (L (b + 3)) (n - 2)) 0 ((L (b + 10) (n - 2) * L b 6 * L b 6) * fpL I L b)) 1 ((L (b + 10) (n - 2) * L b 6 * L b 6) * spL I L b)) (n - 2))) R) := by
  refine PMet.of mf_X0_findPushes (Nat.le_of_ble_eq_true rfl) ?_
  intro X h hr hml
  have hml : (xc X).maxLocals = 9 := hml
  have h : PXok X RX0 cX0_findPushes 2 0 0 := h
  have hr : PXr X none "findPushes" _ 0 0 := hr
  have hB0 := hB
  obtain ⟨f0, f1, f2, f3, f4, f5, f6, f7, f8, f9, f10, f11, g1, g2, g3, g9, g10, g11, g12, g13, g14, g15, g16⟩ := hB
  show PW X 0 [(0, .ref b)] [] sh I L R 0 0
  refine pw_aload_n h 0 d_X0_findPushes_0 rfl ?_
  refine pw_getI 0 h d_X0_findPushes_1 fd_RX0_9 (by assumption) rfl ?_
  refine pw_iconst (x := 2) h d_X0_findPushes_4 (by decide) ?_
  refine pw_isub h d_X0_findPushes_5 ?_
  refine pw_nmI (fun v1_6 e1_6 => ?_)
  refine pw_istore_n (lv' := [(1, .int v1_6), (0, .ref b)]) h d_X0_findPushes_6 rfl _ hml (by decide) rfl ?_
  have el : v1_6 = nI (n - 2) := by rw [e1_6, hn]; exact pk_sub (b := 2) h2
  have hxl : px_ix v1_6 7 (n - 2) := k_ix el (by omega) (by decide)
  refine pw_aload_n h 1 d_X0_findPushes_7 rfl ?_
  refine pw_getR (j := (b + 10)) 0 h d_X0_findPushes_8 fd_RX0_60 (by assumption) rfl (by assumption) ?_
  refine pw_iload_n h 0 d_X0_findPushes_11 rfl ?_
  refine pw_lald h d_X0_findPushes_12 (by assumption) (by assumption) ?_
  refine pw_aload_n h 1 d_X0_findPushes_13 rfl ?_
  refine pw_getL 0 h d_X0_findPushes_14 fd_RX0_33 (by assumption) rfl ?_
  refine pw_lmul h d_X0_findPushes_17 ?_
  refine pw_aload_n h 1 d_X0_findPushes_18 rfl ?_
  refine pw_getL 0 h d_X0_findPushes_19 fd_RX0_33 (by assumption) rfl ?_
  refine pw_lmul h d_X0_findPushes_22 ?_
  refine pw_nmL (fun v2_23 e2_23 => ?_)
  refine pw_lstore_n (lv' := [(2, .long v2_23), (1, .int v1_6), (0, .ref b)]) h d_X0_findPushes_23 rfl _ hml (by decide) rfl ?_
  have esc : v2_23 = (L (b + 10) (n - 2) * L b 6 * L b 6) := e2_23
  refine pw_aload_n h 2 d_X0_findPushes_24 rfl ?_
  refine pw_lload_n h 0 d_X0_findPushes_25 rfl ?_
  refine pw_aload_n h 2 d_X0_findPushes_26 rfl ?_
  refine pw_getR (j := (b + 6)) 0 h d_X0_findPushes_27 fd_RX0_48 (by assumption) rfl (by assumption) ?_
  refine pw_iconst (x := 0) h d_X0_findPushes_30 (by decide) ?_
  refine pw_lald (j := 0) h d_X0_findPushes_31 (by assumption) (px_ix_nI (j := 0) (by decide) (by decide)) ?_
  refine pw_lmul h d_X0_findPushes_32 ?_
  refine pw_putL 0 h d_X0_findPushes_33 fd_RX0_26 (by assumption) rfl rfl rfl rfl ?_
  refine pw_iconst (x := 2) h d_X0_findPushes_36 (by decide) ?_
  refine pw_nmI (fun v4_37 e4_37 => ?_)
  refine pw_istore (lv' := [(4, .int v4_37), (2, .long v2_23), (1, .int v1_6), (0, .ref b)]) h d_X0_findPushes_37 _ hml (by decide) rfl ?_
  have cut_39 : ∀ (N r : Nat) (v : Int32), n - 2 < r + N → r ≤ n - 2 → v = nI (r + 2) → PW X 39 [(0, .ref b), (1, .int v1_6), (2, .long v2_23), (4, .int v)] [] sh I (u1 (u2 L b 4 ((L (b + 10) (n - 2) * L b 6 * L b 6) * sp 0)) (b + 3) (pz0 (L (b + 3)) r)) R 0 0 := by
    intro N
    induction N with
    | zero => intros; omega
    | succ N ih =>
      intro r v hN hi ev
      refine pw_iload h 3 d_X0_findPushes_39 rfl ?_
      refine pw_aload_n h 0 d_X0_findPushes_41 rfl ?_
      refine pw_getI 0 h d_X0_findPushes_42 fd_RX0_9 (by assumption) rfl ?_
      refine pw_icmp_ge 62 h d_X0_findPushes_45 (by decide) (fun c_45 => ?_) (fun c_45 => ?_)
      · skip
        have hge : n ≤ r + 2 := k_ge ev hn (by omega) (by omega) c_45
        have e : r = n - 2 := by omega
        subst e
        refine pw_aload_n h 0 d_X0_findPushes_62 rfl ?_
        refine pw_getR (j := (b + 3)) 0 h d_X0_findPushes_63 fd_RX0_22 (by assumption) rfl (by assumption) ?_
        refine pw_iconst (x := 0) h d_X0_findPushes_66 (by decide) ?_
        refine pw_lload_n h 2 d_X0_findPushes_67 rfl ?_
        refine pw_aload_n h 0 d_X0_findPushes_68 rfl ?_
        refine pw_callV (As := []) h d_X0_findPushes_69 mf_X0_firstPush mi_X0_firstPush ml_RX0_84 ⟨by decide, by decide, by decide⟩ (by assumption) rfl rfl (Nat.le_of_ble_eq_true rfl) trivial (c_X0_firstPush hB0) ?_
        refine PKk.ret ?_
        refine pw_lmul h d_X0_findPushes_72 ?_
        refine pw_last (j := 0) h d_X0_findPushes_73 (by assumption) (px_ix_nI (j := 0) (by decide) (by decide)) ?_
        refine pw_aload_n h 0 d_X0_findPushes_74 rfl ?_
        refine pw_getR (j := (b + 3)) 0 h d_X0_findPushes_75 fd_RX0_22 (by assumption) rfl (by assumption) ?_
        refine pw_iconst (x := 1) h d_X0_findPushes_78 (by decide) ?_
        refine pw_lload_n h 2 d_X0_findPushes_79 rfl ?_
        refine pw_aload_n h 0 d_X0_findPushes_80 rfl ?_
        refine pw_callV (As := []) h d_X0_findPushes_81 mf_X0_secondPush mi_X0_secondPush ml_RX0_92 ⟨by decide, by decide, by decide⟩ (by assumption) rfl rfl (Nat.le_of_ble_eq_true rfl) trivial (c_X0_secondPush hB0) ?_
        refine PKk.ret ?_
        refine pw_lmul h d_X0_findPushes_84 ?_
        refine pw_last (j := 1) h d_X0_findPushes_85 (by assumption) (px_ix_nI (j := 1) (by decide) (by decide)) ?_
        refine pw_iconst (x := 1) h d_X0_findPushes_86 (by decide) ?_
        refine pw_nmI (fun v4_87 e4_87 => ?_)
        refine pw_istore (lv' := [(4, .int v4_87), (0, .ref b), (1, .int v1_6), (2, .long v2_23)]) h d_X0_findPushes_87 _ hml (by decide) rfl ?_
        have cut_89 : ∀ (N r : Nat) (v : Int32), n - 2 < r + N → r ≤ n - 2 → v = nI (r + 1) → PW X 89 [(0, .ref b), (1, .int v1_6), (4, .int v)] [] sh I (u1 (u2 L b 4 ((L (b + 10) (n - 2) * L b 6 * L b 6) * sp 0)) (b + 3) (pFin (L b 6) sp (L (b + 9)) (vp_updL (vp_updL (pz0 (L (b + 3)) (n - 2)) 0 ((L (b + 10) (n - 2) * L b 6 * L b 6) * fpL I L b)) 1 ((L (b + 10) (n - 2) * L b 6 * L b 6) * spL I L b)) r)) R 0 0 := by
          intro N
          induction N with
          | zero => intros; omega
          | succ N ih =>
            intro r v hN hi ev
            refine pw_iload h 2 d_X0_findPushes_89 rfl ?_
            refine pw_iload_n h 1 d_X0_findPushes_91 rfl ?_
            refine pw_icmp_gt 194 h d_X0_findPushes_92 (by decide) (fun c_92 => ?_) (fun c_92 => ?_)
            · skip
              have hge : n - 2 < r + 1 := k_lt2 el ev (by omega) (by omega) c_92
              have e : r = n - 2 := by omega
              subst e
              refine pw_vret h hr d_X0_findPushes_194 (by decide) (by decide) ?_
              exact ⟨rfl, rfl, rfl, rfl, rfl⟩
            · skip
              have hlt : r + 1 ≤ n - 2 := k_ge2 el ev (by omega) (by omega) c_92
              have hx := k_ix ev (show r + 1 < 7 by omega) (by decide)
              have hx1 := k_ixm ev (show 0 < r + 1 by omega) (show r + 1 - 1 < 7 by omega) (by decide)
              have hx3 := k_ix1 ev (show r + 1 + 1 < 7 by omega) (by decide)
              refine pw_aload_n h 0 d_X0_findPushes_95 rfl ?_
              refine pw_getL 0 h d_X0_findPushes_96 fd_RX0_33 (by assumption) rfl ?_
              refine pw_aload_n h 0 d_X0_findPushes_99 rfl ?_
              refine pw_getR (j := (b + 6)) 0 h d_X0_findPushes_100 fd_RX0_48 (by assumption) rfl (by assumption) ?_
              refine pw_iload h 2 d_X0_findPushes_103 rfl ?_
              refine pw_iconst (x := 1) h d_X0_findPushes_105 (by decide) ?_
              refine pw_isub h d_X0_findPushes_106 ?_
              refine pw_lald h d_X0_findPushes_107 (by assumption) (by assumption) ?_
              refine pw_callSN (As := [.long _, .long _]) h d_X0_findPushes_108 mf_X7_cut st_yX7_cut nw_RX0_95 ⟨by decide, by decide, by decide⟩ rfl rfl (Nat.le_of_ble_eq_true rfl) c_X7_cut ?_
              refine PKk.ret ?_
              refine pw_aload_n h 0 d_X0_findPushes_111 rfl ?_
              refine pw_getR (j := (b + 9)) 0 h d_X0_findPushes_112 fd_RX0_57 (by assumption) rfl (by assumption) ?_
              refine pw_iload h 2 d_X0_findPushes_115 rfl ?_
              refine pw_lald h d_X0_findPushes_117 (by assumption) (by assumption) ?_
              refine pw_lmul h d_X0_findPushes_118 ?_
              refine pw_nmL (fun v5_119 e5_119 => ?_)
              refine pw_lstore (lv' := [(5, .long v5_119), (0, .ref b), (1, .int v1_6), (4, .int v)]) h d_X0_findPushes_119 _ hml (by decide) rfl ?_
              refine pw_aload_n h 1 d_X0_findPushes_121 rfl ?_
              refine pw_getL 0 h d_X0_findPushes_122 fd_RX0_33 (by assumption) rfl ?_
              refine pw_aload_n h 1 d_X0_findPushes_125 rfl ?_
              refine pw_getR (j := (b + 6)) 0 h d_X0_findPushes_126 fd_RX0_48 (by assumption) rfl (by assumption) ?_
              refine pw_iload h 3 d_X0_findPushes_129 rfl ?_
              refine pw_lald h d_X0_findPushes_131 (by assumption) (by assumption) ?_
              refine pw_callSN (As := [.long _, .long _]) h d_X0_findPushes_132 mf_X7_cut st_yX7_cut nw_RX0_95 ⟨by decide, by decide, by decide⟩ rfl rfl (Nat.le_of_ble_eq_true rfl) c_X7_cut ?_
              refine PKk.ret ?_
              refine pw_aload_n h 1 d_X0_findPushes_135 rfl ?_
              refine pw_getR (j := (b + 9)) 0 h d_X0_findPushes_136 fd_RX0_57 (by assumption) rfl (by assumption) ?_
              refine pw_iload h 3 d_X0_findPushes_139 rfl ?_
              refine pw_lald h d_X0_findPushes_141 (by assumption) (by assumption) ?_
              refine pw_lmul h d_X0_findPushes_142 ?_
              refine pw_nmL (fun v7_143 e7_143 => ?_)
              refine pw_lstore (lv' := [(7, .long v7_143), (5, .long v5_119), (0, .ref b), (1, .int v1_6), (4, .int v)]) h d_X0_findPushes_143 _ hml (by decide) rfl ?_
              refine pw_aload_n h 2 d_X0_findPushes_145 rfl ?_
              refine pw_getR (j := (b + 3)) 0 h d_X0_findPushes_146 fd_RX0_22 (by assumption) rfl (by assumption) ?_
              refine pw_iload h 4 d_X0_findPushes_149 rfl ?_
              refine pw_iconst (x := 1) h d_X0_findPushes_151 (by decide) ?_
              refine pw_isub h d_X0_findPushes_152 ?_
              refine pw_dup2RI h d_X0_findPushes_153 ?_
              refine pw_lald h d_X0_findPushes_154 (by assumption) (by assumption) ?_
              refine pw_lload h 1 d_X0_findPushes_155 rfl ?_
              refine pw_ladd h d_X0_findPushes_157 ?_
              refine pw_last h d_X0_findPushes_158 (by assumption) (by assumption) ?_
              refine pw_aload_n h 2 d_X0_findPushes_159 rfl ?_
              refine pw_getR (j := (b + 3)) 0 h d_X0_findPushes_160 fd_RX0_22 (by assumption) rfl (by assumption) ?_
              refine pw_iload h 4 d_X0_findPushes_163 rfl ?_
              refine pw_dup2RI h d_X0_findPushes_165 ?_
              refine pw_lald h d_X0_findPushes_166 (by assumption) (by assumption) ?_
              refine pw_lload h 1 d_X0_findPushes_167 rfl ?_
              refine pw_lload h 0 d_X0_findPushes_169 rfl ?_
              refine pw_ladd h d_X0_findPushes_171 ?_
              refine pw_lsub h d_X0_findPushes_172 ?_
              refine pw_last h d_X0_findPushes_173 (by assumption) (by assumption) ?_
              refine pw_aload_n h 2 d_X0_findPushes_174 rfl ?_
              refine pw_getR (j := (b + 3)) 0 h d_X0_findPushes_175 fd_RX0_22 (by assumption) rfl (by assumption) ?_
              refine pw_iload h 4 d_X0_findPushes_178 rfl ?_
              refine pw_iconst (x := 1) h d_X0_findPushes_180 (by decide) ?_
              refine pw_iadd h d_X0_findPushes_181 ?_
              refine pw_dup2RI h d_X0_findPushes_182 ?_
              refine pw_lald h d_X0_findPushes_183 (by assumption) (by assumption) ?_
              refine pw_lload h 0 d_X0_findPushes_184 rfl ?_
              refine pw_ladd h d_X0_findPushes_186 ?_
              refine pw_last h d_X0_findPushes_187 (by assumption) (by assumption) ?_
              obtain ⟨v4_188, e4_188⟩ : ∃ z : Int32, z = v + (1) := ⟨_, rfl⟩
              refine pw_iinc (lv' := [(4, .int v4_188), (7, .long v7_143), (5, .long v5_119), (0, .ref b), (1, .int v1_6)]) v4_188 h d_X0_findPushes_188 4 rfl e4_188.symm _ hml (by decide) rfl ?_
              refine pw_goto 89 h d_X0_findPushes_191 (by decide) ?_
              refine PW.perm [3, 4, 0] rfl ?_
              refine pw_mem rfl ?_ rfl (ih (r + 1) v4_188 (by omega) (by omega) (k_up e4_188 ev))
              rw [u1_up, u1_up, u1_up]
              simp only [u1_s]
              rw [e5_119, e7_143]
              simp only [u1_n (show b + 6 ≠ b + 3 by omega), u1_n (show b + 9 ≠ b + 3 by omega), u1_n (show b ≠ b + 3 by omega), u1_n (show b + 10 ≠ b + 3 by omega), u2_n1 (show b + 6 ≠ b by omega), u2_n1 (show b + 9 ≠ b by omega), u2_n1 (show b + 10 ≠ b by omega), u2_n1 (show b + 3 ≠ b by omega), u2_n2 (show 6 ≠ 4 by decide), u2_n2 (show 7 ≠ 4 by decide), u2_n2 (show 8 ≠ 4 by decide), u1_s]
              rw [hsp _ (by omega), hsp _ (by omega)]
              rfl
        refine PW.perm [1, 2, 0] rfl ?_
        refine pw_mem rfl ?_ rfl (cut_89 (n + 1) 0 v4_87 (by omega) (by omega) (by rw [e4_87]; rfl))
        rw [u1_up, u1_up]
        unfold fpL spL
        simp only [u1_n (show b + 6 ≠ b + 3 by omega), u1_n (show b + 9 ≠ b + 3 by omega), u1_n (show b ≠ b + 3 by omega), u1_n (show b + 10 ≠ b + 3 by omega), u2_n1 (show b + 6 ≠ b by omega), u2_n1 (show b + 9 ≠ b by omega), u2_n1 (show b + 10 ≠ b by omega), u2_n1 (show b + 3 ≠ b by omega), u2_n2 (show 6 ≠ 4 by decide), u2_n2 (show 7 ≠ 4 by decide), u2_n2 (show 8 ≠ 4 by decide), u1_s]
        rw [esc]
        rfl
      · skip
        have hlt : r + 2 < n := k_lt ev hn (by omega) (by omega) c_45
        have hx := k_ix ev (show r + 2 < 7 by omega) (by decide)
        refine pw_aload_n h 0 d_X0_findPushes_48 rfl ?_
        refine pw_getR (j := (b + 3)) 0 h d_X0_findPushes_49 fd_RX0_22 (by assumption) rfl (by assumption) ?_
        refine pw_iload h 3 d_X0_findPushes_52 rfl ?_
        refine pw_lconst (x := 0) h d_X0_findPushes_54 (by decide) ?_
        refine pw_last h d_X0_findPushes_55 (by assumption) (by assumption) ?_
        obtain ⟨v4_56, e4_56⟩ : ∃ z : Int32, z = v + (1) := ⟨_, rfl⟩
        refine pw_iinc (lv' := [(4, .int v4_56), (0, .ref b), (1, .int v1_6), (2, .long v2_23)]) v4_56 h d_X0_findPushes_56 3 rfl e4_56.symm _ hml (by decide) rfl ?_
        refine pw_goto 39 h d_X0_findPushes_59 (by decide) ?_
        refine PW.perm [1, 2, 3, 0] rfl ?_
        refine pw_mem rfl u1_up rfl (ih (r + 1) v4_56 (by omega) (by omega) (k_up e4_56 ev))
  refine PW.perm [3, 2, 1, 0] rfl ?_
  refine pw_mem rfl ?_ rfl (cut_39 (n + 1) 0 v4_37 (by omega) (by omega) (by rw [e4_37]; rfl))
  rw [hsp _ (by omega), esc]
  refine (u1_self (c := b + 3)).trans ?_
  exact congrArg (u1 _ _) (funext fun k => u2_n1 (show b + 3 ≠ b by omega))
