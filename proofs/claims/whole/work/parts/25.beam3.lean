set_option maxHeartbeats 4000000 in
set_option maxRecDepth 100000 in
theorem c_X0_findDeterminants {sh : Sh} {I : IM} {L : LM} {R : RM} {b : Nat} (hB : BeamF sh R b) {n : Nat} (hn : I b 0 = nI n) (h7 : n ≤ 7) (h2 : 2 ≤ n) {sp : Nat → Int64} (hsp : ∀ k, k < n - 1 → L (b + 6) k = sp k) : PMet M_X0_findDeterminants [.ref b] sh I L R (pRet none sh I (detL L b n sp) R) := by
  refine PMet.of mf_X0_findDeterminants (Nat.le_of_ble_eq_true rfl) ?_
  intro X h hr hml
  have hml : (xc X).maxLocals = 3 := hml
  have h : PXok X RX0 cX0_findDeterminants 1 0 0 := h
  have hr : PXr X none "findDeterminants" _ 0 0 := hr
  have hB0 := hB
  obtain ⟨f0, f1, f2, f3, f4, f5, f6, f7, f8, f9, f10, f11, g1, g2, g3, g9, g10, g11, g12, g13, g14, g15, g16⟩ := hB
  show PW X 0 [(0, .ref b)] [] sh I L R 0 0
  refine pw_aload_n h 0 d_X0_findDeterminants_0 rfl ?_
  refine pw_getI 0 h d_X0_findDeterminants_1 fd_RX0_9 (by assumption) rfl ?_
  refine pw_iconst (x := 2) h d_X0_findDeterminants_4 (by decide) ?_
  refine pw_isub h d_X0_findDeterminants_5 ?_
  refine pw_nmI (fun v1_6 e1_6 => ?_)
  refine pw_istore_n (lv' := [(1, .int v1_6), (0, .ref b)]) h d_X0_findDeterminants_6 rfl _ hml (by decide) rfl ?_
  have el : v1_6 = nI (n - 2) := by rw [e1_6, hn]; exact pk_sub (b := 2) h2
  refine pw_aload_n h 1 d_X0_findDeterminants_7 rfl ?_
  refine pw_getR (j := (b + 10)) 0 h d_X0_findDeterminants_8 fd_RX0_60 (by assumption) rfl (by assumption) ?_
  refine pw_iconst (x := 0) h d_X0_findDeterminants_11 (by decide) ?_
  refine pw_lconst (x := 1) h d_X0_findDeterminants_12 (by decide) ?_
  refine pw_last (j := 0) h d_X0_findDeterminants_13 (by assumption) (px_ix_nI (j := 0) (by decide) (by decide)) ?_
  refine pw_iconst (x := 1) h d_X0_findDeterminants_14 (by decide) ?_
  refine pw_nmI (fun v2_15 e2_15 => ?_)
  refine pw_istore_n (lv' := [(2, .int v2_15), (1, .int v1_6), (0, .ref b)]) h d_X0_findDeterminants_15 rfl _ hml (by decide) rfl ?_
  have cut_16 : ∀ (N k : Nat) (v : Int32), n - 1 < k + N → 1 ≤ k → k ≤ n - 1 → v = nI k → PW X 16 [(0, .ref b), (1, .int v1_6), (2, .int v)] [] sh I (u1 L (b + 10) (fun j => if j < k then ahdF sp j else L (b + 10) j)) R 0 0 := by
    intro N
    induction N with
    | zero => intros; omega
    | succ N ih =>
      intro k v hN hk hi ev
      refine pw_iload_n h 2 d_X0_findDeterminants_16 rfl ?_
      refine pw_iload_n h 1 d_X0_findDeterminants_17 rfl ?_
      refine pw_icmp_gt 101 h d_X0_findDeterminants_18 (by decide) (fun c_18 => ?_) (fun c_18 => ?_)
      · skip
        have hge : n - 2 < k := k_lt2 el ev (by omega) (by omega) c_18
        have e : k = n - 1 := by omega
        subst e
        have hxl : px_ix (v1_6 + 1) 7 (n - 1) := by have := k_ix1 el (show n - 2 + 1 < 7 by omega) (by decide); rwa [show n - 2 + 1 = n - 1 by omega] at this
        refine pw_aload_n h 0 d_X0_findDeterminants_101 rfl ?_
        refine pw_getR (j := (b + 11)) 0 h d_X0_findDeterminants_102 fd_RX0_63 (by assumption) rfl (by assumption) ?_
        refine pw_iload_n h 1 d_X0_findDeterminants_105 rfl ?_
        refine pw_iconst (x := 1) h d_X0_findDeterminants_106 (by decide) ?_
        refine pw_iadd h d_X0_findDeterminants_107 ?_
        refine pw_lconst (x := 1) h d_X0_findDeterminants_108 (by decide) ?_
        refine pw_last h d_X0_findDeterminants_109 (by assumption) (by assumption) ?_
        refine pw_iload_n h 1 d_X0_findDeterminants_110 rfl ?_
        refine pw_nmI (fun v2_111 e2_111 => ?_)
        refine pw_istore_n (lv' := [(2, .int v2_111), (0, .ref b), (1, .int v1_6)]) h d_X0_findDeterminants_111 rfl _ hml (by decide) rfl ?_
        have cut_112 : ∀ (N a : Nat) (v : Int32), a < N → min 1 (n - 2) ≤ a → a ≤ n - 2 → v = nI a → PW X 112 [(0, .ref b), (1, .int v1_6), (2, .int v)] [] sh I (u1 (u1 L (b + 10) (fun j => if j < n - 1 then ahdF sp j else L (b + 10) j)) (b + 11) (fun j => if a < j ∧ j ≤ n - 1 then bhdF sp (n - 2) (n - 1 - j) else L (b + 11) j)) R 0 0 := by
          intro N
          induction N with
          | zero => intros; omega
          | succ N ih =>
            intro a v hN ha hi ev
            refine pw_iload_n h 2 d_X0_findDeterminants_112 rfl ?_
            refine pw_iconst (x := 2) h d_X0_findDeterminants_113 (by decide) ?_
            refine pw_icmp_lt 193 h d_X0_findDeterminants_114 (by decide) (fun c_114 => ?_) (fun c_114 => ?_)
            · skip
              have hlt : a < 2 := k_lt2 ev (n := 2) rfl (by omega) (by omega) c_114
              have e : a = min 1 (n - 2) := by omega
              subst e
              refine pw_vret h hr d_X0_findDeterminants_193 (by decide) (by decide) ?_
              exact ⟨rfl, rfl, rfl, rfl, rfl⟩
            · skip
              have hge : 2 ≤ a := k_ge2 ev (n := 2) rfl (by omega) (by omega) c_114
              have hx := k_ix ev (show a < 7 by omega) (by decide)
              have hx1 := k_ixm ev (show 0 < a by omega) (show a - 1 < 7 by omega) (by decide)
              have hx3 := k_ix1 ev (show a + 1 < 7 by omega) (by decide)
              refine pw_aload_n h 0 d_X0_findDeterminants_117 rfl ?_
              refine pw_getR (j := (b + 11)) 0 h d_X0_findDeterminants_118 fd_RX0_63 (by assumption) rfl (by assumption) ?_
              refine pw_iload_n h 2 d_X0_findDeterminants_121 rfl ?_
              refine pw_ldc2 h d_X0_findDeterminants_122 ck_RX0_68 ?_
              refine pw_aload_n h 0 d_X0_findDeterminants_125 rfl ?_
              refine pw_getR (j := (b + 6)) 0 h d_X0_findDeterminants_126 fd_RX0_48 (by assumption) rfl (by assumption) ?_
              refine pw_iload_n h 2 d_X0_findDeterminants_129 rfl ?_
              refine pw_iconst (x := 1) h d_X0_findDeterminants_130 (by decide) ?_
              refine pw_isub h d_X0_findDeterminants_131 ?_
              refine pw_lald h d_X0_findDeterminants_132 (by assumption) (by assumption) ?_
              refine pw_aload_n h 0 d_X0_findDeterminants_133 rfl ?_
              refine pw_getR (j := (b + 6)) 0 h d_X0_findDeterminants_134 fd_RX0_48 (by assumption) rfl (by assumption) ?_
              refine pw_iload_n h 2 d_X0_findDeterminants_137 rfl ?_
              refine pw_lald h d_X0_findDeterminants_138 (by assumption) (by assumption) ?_
              refine pw_ladd h d_X0_findDeterminants_139 ?_
              refine pw_lmul h d_X0_findDeterminants_140 ?_
              refine pw_aload_n h 0 d_X0_findDeterminants_141 rfl ?_
              refine pw_getR (j := (b + 11)) 0 h d_X0_findDeterminants_142 fd_RX0_63 (by assumption) rfl (by assumption) ?_
              refine pw_iload_n h 2 d_X0_findDeterminants_145 rfl ?_
              refine pw_iconst (x := 1) h d_X0_findDeterminants_146 (by decide) ?_
              refine pw_iadd h d_X0_findDeterminants_147 ?_
              refine pw_lald h d_X0_findDeterminants_148 (by assumption) (by assumption) ?_
              refine pw_lmul h d_X0_findDeterminants_149 ?_
              refine pw_last h d_X0_findDeterminants_150 (by assumption) (by assumption) ?_
              refine pw_iload_n h 2 d_X0_findDeterminants_151 rfl ?_
              refine pw_iload_n h 1 d_X0_findDeterminants_152 rfl ?_
              refine pw_icmp_ge 187 h d_X0_findDeterminants_153 (by decide) (fun c_153 => ?_) (fun c_153 => ?_)
              · skip
                have hz : n - 2 ≤ a := k_ge ev el (by omega) (by omega) c_153
                obtain ⟨v2_187, e2_187⟩ : ∃ z : Int32, z = v + (-1) := ⟨_, rfl⟩
                refine pw_iinc (lv' := [(2, .int v2_187), (0, .ref b), (1, .int v1_6)]) v2_187 h d_X0_findDeterminants_187 2 rfl e2_187.symm _ hml (by decide) rfl ?_
                refine pw_goto 112 h d_X0_findDeterminants_190 (by decide) ?_
                refine PW.perm [1, 2, 0] rfl ?_
                refine pw_mem rfl ?_ rfl (ih (a - 1) v2_187 (by omega) (by omega) (by omega) (k_dn e2_187 ev (by omega)))
                first
                  | (rw [u2_u2]; refine (congrArg (u2 _ _ _) ?_).trans (u1_stepD (F := fun j => bhdF sp (n - 2) (n - 1 - j)) (by omega) (by omega)); simp only [u2_s, u2_n2 (show a + 2 ≠ a by omega), u2_n1 (show b + 6 ≠ b + 11 by omega), u1_n (show b + 6 ≠ b + 11 by omega), u1_n (show b + 6 ≠ b + 10 by omega), u1_s]; rw [if_pos (by omega), if_pos (by omega), hsp _ (by omega), hsp _ (by omega)]; exact bhdF_2 (by omega) (by omega))
                  | (refine (congrArg (u2 _ _ _) ?_).trans (u1_stepD (F := fun j => bhdF sp (n - 2) (n - 1 - j)) (by omega) (by omega)); simp only [u1_n (show b + 6 ≠ b + 11 by omega), u1_n (show b + 6 ≠ b + 10 by omega), u1_s]; rw [if_pos (by omega), hsp _ (by omega), hsp _ (by omega)]; exact bhdF_1 (by omega) (by omega))
              · skip
                have hz : a < n - 2 := k_lt ev el (by omega) (by omega) c_153
                have hx4 := k_ix2 ev (show a + 2 < 7 by omega) (by decide)
                refine pw_aload_n h 0 d_X0_findDeterminants_156 rfl ?_
                refine pw_getR (j := (b + 11)) 0 h d_X0_findDeterminants_157 fd_RX0_63 (by assumption) rfl (by assumption) ?_
                refine pw_iload_n h 2 d_X0_findDeterminants_160 rfl ?_
                refine pw_dup2RI h d_X0_findDeterminants_161 ?_
                refine pw_lald h d_X0_findDeterminants_162 (by assumption) (by assumption) ?_
                refine pw_aload_n h 0 d_X0_findDeterminants_163 rfl ?_
                refine pw_getR (j := (b + 6)) 0 h d_X0_findDeterminants_164 fd_RX0_48 (by assumption) rfl (by assumption) ?_
                refine pw_iload_n h 2 d_X0_findDeterminants_167 rfl ?_
                refine pw_lald h d_X0_findDeterminants_168 (by assumption) (by assumption) ?_
                refine pw_aload_n h 0 d_X0_findDeterminants_169 rfl ?_
                refine pw_getR (j := (b + 6)) 0 h d_X0_findDeterminants_170 fd_RX0_48 (by assumption) rfl (by assumption) ?_
                refine pw_iload_n h 2 d_X0_findDeterminants_173 rfl ?_
                refine pw_lald h d_X0_findDeterminants_174 (by assumption) (by assumption) ?_
                refine pw_lmul h d_X0_findDeterminants_175 ?_
                refine pw_aload_n h 0 d_X0_findDeterminants_176 rfl ?_
                refine pw_getR (j := (b + 11)) 0 h d_X0_findDeterminants_177 fd_RX0_63 (by assumption) rfl (by assumption) ?_
                refine pw_iload_n h 2 d_X0_findDeterminants_180 rfl ?_
                refine pw_iconst (x := 2) h d_X0_findDeterminants_181 (by decide) ?_
                refine pw_iadd h d_X0_findDeterminants_182 ?_
                refine pw_lald h d_X0_findDeterminants_183 (by assumption) (by assumption) ?_
                refine pw_lmul h d_X0_findDeterminants_184 ?_
                refine pw_lsub h d_X0_findDeterminants_185 ?_
                refine pw_last h d_X0_findDeterminants_186 (by assumption) (by assumption) ?_
                obtain ⟨v2_187, e2_187⟩ : ∃ z : Int32, z = v + (-1) := ⟨_, rfl⟩
                refine pw_iinc (lv' := [(2, .int v2_187), (0, .ref b), (1, .int v1_6)]) v2_187 h d_X0_findDeterminants_187 2 rfl e2_187.symm _ hml (by decide) rfl ?_
                refine pw_goto 112 h d_X0_findDeterminants_190 (by decide) ?_
                refine PW.perm [1, 2, 0] rfl ?_
                refine pw_mem rfl ?_ rfl (ih (a - 1) v2_187 (by omega) (by omega) (by omega) (k_dn e2_187 ev (by omega)))
                first
                  | (rw [u2_u2]; refine (congrArg (u2 _ _ _) ?_).trans (u1_stepD (F := fun j => bhdF sp (n - 2) (n - 1 - j)) (by omega) (by omega)); simp only [u2_s, u2_n2 (show a + 2 ≠ a by omega), u2_n1 (show b + 6 ≠ b + 11 by omega), u1_n (show b + 6 ≠ b + 11 by omega), u1_n (show b + 6 ≠ b + 10 by omega), u1_s]; rw [if_pos (by omega), if_pos (by omega), hsp _ (by omega), hsp _ (by omega)]; exact bhdF_2 (by omega) (by omega))
                  | (refine (congrArg (u2 _ _ _) ?_).trans (u1_stepD (F := fun j => bhdF sp (n - 2) (n - 1 - j)) (by omega) (by omega)); simp only [u1_n (show b + 6 ≠ b + 11 by omega), u1_n (show b + 6 ≠ b + 10 by omega), u1_s]; rw [if_pos (by omega), hsp _ (by omega), hsp _ (by omega)]; exact bhdF_1 (by omega) (by omega))
        refine PW.perm [1, 2, 0] rfl ?_
        refine pw_mem rfl (u1_last (by omega)) rfl (cut_112 (n + 1) (n - 2) v2_111 (by omega) (by omega) (by omega) (by rw [e2_111, el]))
      · skip
        have hle : k ≤ n - 2 := k_ge2 el ev (by omega) (by omega) c_18
        have hx := k_ix ev (show k < 7 by omega) (by decide)
        have hx1 := k_ixm ev (show 0 < k by omega) (show k - 1 < 7 by omega) (by decide)
        refine pw_aload_n h 0 d_X0_findDeterminants_21 rfl ?_
        refine pw_getR (j := (b + 10)) 0 h d_X0_findDeterminants_22 fd_RX0_60 (by assumption) rfl (by assumption) ?_
        refine pw_iload_n h 2 d_X0_findDeterminants_25 rfl ?_
        refine pw_ldc2 h d_X0_findDeterminants_26 ck_RX0_68 ?_
        refine pw_aload_n h 0 d_X0_findDeterminants_29 rfl ?_
        refine pw_getR (j := (b + 6)) 0 h d_X0_findDeterminants_30 fd_RX0_48 (by assumption) rfl (by assumption) ?_
        refine pw_iload_n h 2 d_X0_findDeterminants_33 rfl ?_
        refine pw_iconst (x := 1) h d_X0_findDeterminants_34 (by decide) ?_
        refine pw_isub h d_X0_findDeterminants_35 ?_
        refine pw_lald h d_X0_findDeterminants_36 (by assumption) (by assumption) ?_
        refine pw_aload_n h 0 d_X0_findDeterminants_37 rfl ?_
        refine pw_getR (j := (b + 6)) 0 h d_X0_findDeterminants_38 fd_RX0_48 (by assumption) rfl (by assumption) ?_
        refine pw_iload_n h 2 d_X0_findDeterminants_41 rfl ?_
        refine pw_lald h d_X0_findDeterminants_42 (by assumption) (by assumption) ?_
        refine pw_ladd h d_X0_findDeterminants_43 ?_
        refine pw_lmul h d_X0_findDeterminants_44 ?_
        refine pw_aload_n h 0 d_X0_findDeterminants_45 rfl ?_
        refine pw_getR (j := (b + 10)) 0 h d_X0_findDeterminants_46 fd_RX0_60 (by assumption) rfl (by assumption) ?_
        refine pw_iload_n h 2 d_X0_findDeterminants_49 rfl ?_
        refine pw_iconst (x := 1) h d_X0_findDeterminants_50 (by decide) ?_
        refine pw_isub h d_X0_findDeterminants_51 ?_
        refine pw_lald h d_X0_findDeterminants_52 (by assumption) (by assumption) ?_
        refine pw_lmul h d_X0_findDeterminants_53 ?_
        refine pw_last h d_X0_findDeterminants_54 (by assumption) (by assumption) ?_
        refine pw_iload_n h 2 d_X0_findDeterminants_55 rfl ?_
        refine pw_iconst (x := 1) h d_X0_findDeterminants_56 (by decide) ?_
        refine pw_icmp_le 95 h d_X0_findDeterminants_57 (by decide) (fun c_57 => ?_) (fun c_57 => ?_)
        · skip
          have e1 : k = 1 := by have := k_ge (n := k) (i := 1) rfl ev (by omega) (by omega) c_57; omega
          subst e1
          obtain ⟨v2_95, e2_95⟩ : ∃ z : Int32, z = v + (1) := ⟨_, rfl⟩
          refine pw_iinc (lv' := [(2, .int v2_95), (0, .ref b), (1, .int v1_6)]) v2_95 h d_X0_findDeterminants_95 2 rfl e2_95.symm _ hml (by decide) rfl ?_
          refine pw_goto 16 h d_X0_findDeterminants_98 (by decide) ?_
          refine PW.perm [1, 2, 0] rfl ?_
          refine pw_mem rfl ?_ rfl (ih _ v2_95 (by omega) (by omega) (by omega) (k_up e2_95 ev))
          first
            | (rw [u2_u2]; refine (congrArg (u2 _ _ _) ?_).trans (u1_stepF (F := ahdF sp)); simp only [u2_s, u2_n2 (show j + 2 - 2 ≠ j + 2 by omega), u2_n1 (show b + 6 ≠ b + 10 by omega), u1_n (show b + 6 ≠ b + 10 by omega), u1_s]; rw [if_pos (by omega), if_pos (by omega), hsp _ (by omega), hsp _ (by omega)]; rfl)
            | (refine (congrArg (u2 _ _ _) ?_).trans (u1_stepF (F := ahdF sp)); simp only [u1_n (show b + 6 ≠ b + 10 by omega), u1_s]; rw [if_pos (by omega), hsp _ (by omega), hsp _ (by omega)]; rfl)
        · skip
          have hk2 : 1 < k := k_lt (i := 1) (n := k) rfl ev (by omega) (by omega) c_57
          have hx2 := k_ixm2 ev hk2 (show k - 2 < 7 by omega) (by decide)
          obtain ⟨j, rfl⟩ : ∃ j, k = j + 2 := ⟨k - 2, by omega⟩
          refine pw_aload_n h 0 d_X0_findDeterminants_60 rfl ?_
          refine pw_getR (j := (b + 10)) 0 h d_X0_findDeterminants_61 fd_RX0_60 (by assumption) rfl (by assumption) ?_
          refine pw_iload_n h 2 d_X0_findDeterminants_64 rfl ?_
          refine pw_dup2RI h d_X0_findDeterminants_65 ?_
          refine pw_lald h d_X0_findDeterminants_66 (by assumption) (by assumption) ?_
          refine pw_aload_n h 0 d_X0_findDeterminants_67 rfl ?_
          refine pw_getR (j := (b + 6)) 0 h d_X0_findDeterminants_68 fd_RX0_48 (by assumption) rfl (by assumption) ?_
          refine pw_iload_n h 2 d_X0_findDeterminants_71 rfl ?_
          refine pw_iconst (x := 1) h d_X0_findDeterminants_72 (by decide) ?_
          refine pw_isub h d_X0_findDeterminants_73 ?_
          refine pw_lald h d_X0_findDeterminants_74 (by assumption) (by assumption) ?_
          refine pw_aload_n h 0 d_X0_findDeterminants_75 rfl ?_
          refine pw_getR (j := (b + 6)) 0 h d_X0_findDeterminants_76 fd_RX0_48 (by assumption) rfl (by assumption) ?_
          refine pw_iload_n h 2 d_X0_findDeterminants_79 rfl ?_
          refine pw_iconst (x := 1) h d_X0_findDeterminants_80 (by decide) ?_
          refine pw_isub h d_X0_findDeterminants_81 ?_
          refine pw_lald h d_X0_findDeterminants_82 (by assumption) (by assumption) ?_
          refine pw_lmul h d_X0_findDeterminants_83 ?_
          refine pw_aload_n h 0 d_X0_findDeterminants_84 rfl ?_
          refine pw_getR (j := (b + 10)) 0 h d_X0_findDeterminants_85 fd_RX0_60 (by assumption) rfl (by assumption) ?_
          refine pw_iload_n h 2 d_X0_findDeterminants_88 rfl ?_
          refine pw_iconst (x := 2) h d_X0_findDeterminants_89 (by decide) ?_
          refine pw_isub h d_X0_findDeterminants_90 ?_
          refine pw_lald h d_X0_findDeterminants_91 (by assumption) (by assumption) ?_
          refine pw_lmul h d_X0_findDeterminants_92 ?_
          refine pw_lsub h d_X0_findDeterminants_93 ?_
          refine pw_last h d_X0_findDeterminants_94 (by assumption) (by assumption) ?_
          obtain ⟨v2_95, e2_95⟩ : ∃ z : Int32, z = v + (1) := ⟨_, rfl⟩
          refine pw_iinc (lv' := [(2, .int v2_95), (0, .ref b), (1, .int v1_6)]) v2_95 h d_X0_findDeterminants_95 2 rfl e2_95.symm _ hml (by decide) rfl ?_
          refine pw_goto 16 h d_X0_findDeterminants_98 (by decide) ?_
          refine PW.perm [1, 2, 0] rfl ?_
          refine pw_mem rfl ?_ rfl (ih _ v2_95 (by omega) (by omega) (by omega) (k_up e2_95 ev))
          first
            | (rw [u2_u2]; refine (congrArg (u2 _ _ _) ?_).trans (u1_stepF (F := ahdF sp)); simp only [u2_s, u2_n2 (show j + 2 - 2 ≠ j + 2 by omega), u2_n1 (show b + 6 ≠ b + 10 by omega), u1_n (show b + 6 ≠ b + 10 by omega), u1_s]; rw [if_pos (by omega), if_pos (by omega), hsp _ (by omega), hsp _ (by omega)]; rfl)
            | (refine (congrArg (u2 _ _ _) ?_).trans (u1_stepF (F := ahdF sp)); simp only [u1_n (show b + 6 ≠ b + 10 by omega), u1_s]; rw [if_pos (by omega), hsp _ (by omega), hsp _ (by omega)]; rfl)
  refine PW.perm [2, 1, 0] rfl ?_
  refine pw_mem rfl (u1_first rfl) rfl (cut_16 n 1 v2_15 (by omega) (by omega) (by omega) e2_15)
