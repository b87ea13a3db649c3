set_option maxHeartbeats 4000000 in
set_option maxRecDepth 100000 in
theorem c_X8_read {sh : Sh} {I : IM} {L : LM} {R : RM} {m T : Nat} (hM : ModF sh R m) (h9 : I m 9 = nI T) (hT2 : T ≤ 120) (hch : ∀ k, k < T → ¬ I (m + 7) k = 0) : PMet M_X8_read [.ref m] sh I L R (reaM sh I L R m T) := by
  refine PMet.of mf_X8_read (Nat.le_of_ble_eq_true rfl) ?_
  intro X h hr hml
  have hml : (xc X).maxLocals = 4 := hml
  have h : PXok X RX8 cX8_read 5 0 0 := h
  have hr : PXr X (some .int) "read" _ 0 0 := hr
  have hM0 := hM
  obtain ⟨f0, f1, f2, f3, f4, f5, f6, f7, f8, f9, f10, f11, f12, f13, f14, f15, f16, f17, f18, f19, f20, f21, f22, f23, f24, f25, f26, f27, g1, g2, g3, g4, g5, g6, g7, g8, g9, g10, g11, g12, g13, g14, g15, g16, g17, g18, g19, g20, g21, g22, g23, g24, g25, g26, g27⟩ := hM
  show PW X 0 [(0, .ref m)] [] sh I L R 0 0
  refine pw_aload_n h 0 d_X8_read_0 rfl ?_
  refine pw_iconst (x := 0) h d_X8_read_1 (by decide) ?_
  refine pw_putI 8 h d_X8_read_2 fd_RX8_163 (by assumption) rfl rfl rfl rfl ?_
  refine pw_aload_n h 0 d_X8_read_5 rfl ?_
  refine pw_iconst (x := 0) h d_X8_read_6 (by decide) ?_
  refine pw_putI 8 h d_X8_read_7 fd_RX8_166 (by assumption) rfl rfl rfl (by first | exact Or.inl rfl | exact Or.inr rfl | rfl | decide) ?_
  refine pw_aload_n h 0 d_X8_read_10 rfl ?_
  refine pw_iconst (x := 0) h d_X8_read_11 (by decide) ?_
  refine pw_putI 8 h d_X8_read_12 fd_RX8_181 (by assumption) rfl rfl rfl rfl ?_
  refine pw_aload_n h 0 d_X8_read_15 rfl ?_
  refine pw_aload_n h 0 d_X8_read_16 rfl ?_
  refine pw_getI 8 h d_X8_read_17 fd_RX8_28 (by assumption) rfl ?_
  refine pw_putI 8 h d_X8_read_20 fd_RX8_184 (by assumption) rfl rfl rfl rfl ?_
  obtain ⟨I0, eI0⟩ : ∃ I0, I0 = u2 (u2 (u2 (u2 I m 10 0) m 11 0) m 12 0) m 16 (u2 (u2 (u2 I m 10 0) m 11 0) m 12 0 m 7) := ⟨_, rfl⟩
  refine pw_mem (I' := I0) eI0.symm rfl rfl ?_
  refine pw_iconst (x := 0) h d_X8_read_23 (by decide) ?_
  refine pw_nmI (fun v1_24 e1_24 => ?_)
  refine pw_istore_n (lv' := [(1, .int v1_24), (0, .ref m)]) h d_X8_read_24 rfl _ hml (by decide) rfl ?_
  have cut_25 : ∀ (N k : Nat) (v : Int32), 13 < k + N → k ≤ 13 → v = nI k → PW X 25 [(0, .ref m), (1, .int v)] [] sh (u1 I0 (m + 10) (fun j => if j < k then 0 else I0 (m + 10) j)) L R 0 0 := by
    intro N
    induction N with
    | zero => intros; omega
    | succ N ih =>
      intro k v hN hk ev
      refine pw_iload_n h 1 d_X8_read_25 rfl ?_
      refine pw_bipush (x := 13) h d_X8_read_26 (by decide) ?_
      refine pw_icmp_ge 44 h d_X8_read_28 (by decide) (fun c_28 => ?_) (fun c_28 => ?_)
      · skip
        have hge := k_ge ev (n := 13) rfl (by omega) (by omega) c_28
        have e9 : k = 13 := by omega
        subst e9
        obtain ⟨I1, eI1⟩ : ∃ I1, I1 = u1 I0 (m + 10) (fun j => if j < 13 then 0 else I0 (m + 10) j) := ⟨_, rfl⟩
        refine pw_mem (I' := I1) eI1.symm rfl rfl ?_
        obtain ⟨R1, fM1⟩ := RdM_0 h9 hT2 eI0 eI1
        refine pw_iconst (x := 0) h d_X8_read_44 (by decide) ?_
        refine pw_nmI (fun v1_45 e1_45 => ?_)
        refine pw_istore_n (lv' := [(1, .int v1_45), (0, .ref m)]) h d_X8_read_45 rfl _ hml (by decide) rfl ?_
        refine pw_iconst (x := 1) h d_X8_read_46 (by decide) ?_
        refine pw_nmI (fun v2_47 e2_47 => ?_)
        refine pw_istore_n (lv' := [(2, .int v2_47), (1, .int v1_45), (0, .ref m)]) h d_X8_read_47 rfl _ hml (by decide) rfl ?_
        have cut_48 : ∀ (N k : Nat) (c mo : Int32) (I2 : IM), 20 < k + N → k ≤ 20 → c = nI k → lpM I I2 m T k (I m 7) mo → PW X 48 [(0, .ref m), (1, .int c), (2, .int mo)] [] sh I2 L R 0 0 := by
          intro N
          induction N with
          | zero => intros; omega
          | succ N ih =>
            intro k c mo I2 hN hk ec hst
            have x2 : I2 (m + 7) = I (m + 7) := frM_f hst.1
            refine pw_iload_n h 2 d_X8_read_48 rfl ?_
            refine pw_if_eq 108 h d_X8_read_49 (by decide) (fun c_49 => ?_) (fun c_49 => ?_)
            · skip
              have hfin := (hst.2.resolve_left (fun q => absurd (q.1.symm.trans c_49) (by decide))).2
              refine pw_aload_n h 0 d_X8_read_108 rfl ?_
              refine pw_aload_n h 0 d_X8_read_109 rfl ?_
              refine pw_getI 8 h d_X8_read_110 fd_RX8_166 (by assumption) rfl ?_
              refine pw_if_ne 123 h d_X8_read_113 (by decide) (fun c_113 => ?_) (fun c_113 => ?_)
              · skip
                obtain ⟨w2, e, a2, hp⟩ := hfin.resolve_right (fun q => c_113 q.1)
                refine pw_iconst (x := 1) h d_X8_read_123 (by decide) ?_
                refine pw_goto 128 h d_X8_read_124 (by decide) ?_
                refine pw_putI 8 h d_X8_read_128 fd_RX8_166 (by assumption) rfl rfl rfl (by first | exact Or.inl rfl | exact Or.inr rfl | rfl | decide) ?_
                refine pw_aload_n h 0 d_X8_read_131 rfl ?_
                refine pw_iconst (x := 0) h d_X8_read_132 (by decide) ?_
                refine pw_putI 8 h d_X8_read_133 fd_RX8_160 (by assumption) rfl rfl rfl rfl ?_
                obtain ⟨I6, eI6⟩ : ∃ I6, I6 = endM m I2 1 := ⟨_, rfl⟩
                refine pw_mem (I' := I6) eI6.symm rfl rfl ?_
                have F6 : frW m I I6 := by rw [eI6]; exact endM_F hst.1
                have t6 : I6 m 9 = 0 := by rw [eI6]; exact endM_t
                have w6 : I6 m 11 = 1 := by rw [eI6]; exact endM_w
                have a6 : I6 m 10 = nI e := by rw [eI6]; exact (endM_o (by omega)).trans a2
                refine pw_aload_n h 0 d_X8_read_136 rfl ?_
                refine pw_getI 8 h d_X8_read_137 fd_RX8_166 (by assumption) rfl ?_
                refine pw_if_eq 151 h d_X8_read_140 (by decide) (fun c_140 => ?_) (fun c_140 => ?_)
                · exact absurd (w6.symm.trans c_140) (by decide)
                · skip
                  refine pw_bipush (x := (-20)) h d_X8_read_143 (by decide) ?_
                  refine pw_aload_n h 0 d_X8_read_145 rfl ?_
                  refine pw_getI 8 h d_X8_read_146 fd_RX8_163 (by assumption) rfl ?_
                  refine pw_isub h d_X8_read_149 ?_
                  refine pw_iret h hr d_X8_read_150 rfl (by decide) (by decide) ?_
                  exact rea_no F6 t6 a6 hp
              · skip
                obtain ⟨_, b, e, D, R2, hbe, hy, hn⟩ := hfin.resolve_left (fun q => absurd (q.1.symm.trans c_113) (by decide))
                refine pw_aload_n h 0 d_X8_read_116 rfl ?_
                refine pw_callV (As := []) h d_X8_read_117 mf_X8_next mi_X8_next ml_RX8_170 ⟨by decide, by decide, by decide⟩ (by assumption) rfl rfl (Nat.le_of_ble_eq_true rfl) trivial (c_X8_next hM0 R2.1 R2.2.1 hT2 R2.2.2.2.1) ?_
                intro ret5 sh5 I5 L5 R5_ hp5
                obtain ⟨e0, e1, eI, eL, eR⟩ := hp5
                subst e0
                have e1 := e1.symm
                have eR := eR.symm
                have eL := eL.symm
                subst e1
                subst eR
                subst eL
                refine ⟨rfl, ?_⟩
                have f5 : frN m I2 I5 := by rw [eI]; exact frN_u (Or.inl rfl)
                have R5 : RdM I5 m T (skB (I (m + 7)) e T) (I m 7) D := RdM_N R2 f5 (by rw [eI, x2, hbe]; exact u2_s) (by rw [eI, u2_n2 (by decide)]; exact R2.2.2.1) (by rw [← hbe]; exact skT R2.2.2.2.1)
                have fM5 : frM m I I5 := frM_t hst.1 (frM_N f5)
                clear eI
                refine pw_if_eq 127 h d_X8_read_120 (by decide) (fun c_120 => ?_) (fun c_120 => ?_)
                · skip
                  have hge : T ≤ skB (I (m + 7)) e T := by rw [x2, hbe] at c_120; exact nx0_0 hch c_120
                  have hpe := hy hge
                  refine pw_iconst (x := 0) h d_X8_read_127 (by decide) ?_
                  refine pw_putI 8 h d_X8_read_128 fd_RX8_166 (by assumption) rfl rfl rfl (by first | exact Or.inl rfl | exact Or.inr rfl | rfl | decide) ?_
                  refine pw_aload_n h 0 d_X8_read_131 rfl ?_
                  refine pw_iconst (x := 0) h d_X8_read_132 (by decide) ?_
                  refine pw_putI 8 h d_X8_read_133 fd_RX8_160 (by assumption) rfl rfl rfl rfl ?_
                  obtain ⟨I6, eI6⟩ : ∃ I6, I6 = endM m I5 0 := ⟨_, rfl⟩
                  refine pw_mem (I' := I6) eI6.symm rfl rfl ?_
                  have F6 : frW m I I6 := by rw [eI6]; exact endM_F fM5
                  have t6 : I6 m 9 = 0 := by rw [eI6]; exact endM_t
                  have w6 : I6 m 11 = 0 := by rw [eI6]; exact endM_w
                  have D6 : DrM I6 m (I m 7) D := by rw [eI6]; exact endM_D R5.2.2.2.2.2.2
                  refine pw_aload_n h 0 d_X8_read_136 rfl ?_
                  refine pw_getI 8 h d_X8_read_137 fd_RX8_166 (by assumption) rfl ?_
                  refine pw_if_eq 151 h d_X8_read_140 (by decide) (fun c_140 => ?_) (fun c_140 => ?_)
                  · skip
                    refine pw_aload_n h 0 d_X8_read_151 rfl ?_
                    refine pw_iconst (x := 0) h d_X8_read_152 (by decide) ?_
                    refine pw_putI 8 h d_X8_read_153 fd_RX8_109 (by assumption) rfl rfl rfl rfl ?_
                    have hlen : D.1.length ≤ 6 := rdM_len R5
                    refine pw_iconst (x := 0) h d_X8_read_156 (by decide) ?_
                    refine pw_nmI (fun v3_157 e3_157 => ?_)
                    refine pw_istore_n (lv' := [(3, .int v3_157), (0, .ref m), (1, .int c), (2, .int mo)]) h d_X8_read_157 rfl _ hml (by decide) rfl ?_
                    have cut_158 : ∀ (N b : Nat) (v : Int32) (I7 : IM), D.1.length < b + N → b ≤ D.1.length → v = nI b → LinZ I7 m (foldI (D.1.take b)) → (∀ c k, (c < m ∨ (c = m ∧ k ≠ 0) ∨ m + 4 < c) → I7 c k = I6 c k) → PW X 158 [(0, .ref m), (3, .int v)] [] sh I7 L R 0 0 := by
                      intro N
                      induction N with
                      | zero => intros; omega
                      | succ N ihb =>
                        intro b v I7 hN hb ev hZ o7
                        refine pw_iload_n h 1 d_X8_read_158 rfl ?_
                        refine pw_aload_n h 0 d_X8_read_159 rfl ?_
                        refine pw_getI 8 h d_X8_read_160 fd_RX8_181 (by assumption) rfl ?_
                        refine pw_icmp_ge 189 h d_X8_read_163 (by decide) (fun c_163 => ?_) (fun c_163 => ?_)
                        · skip
                          have hge := k_ge ev (show I7 m 12 = nI D.1.length by rw [o7 _ _ (by omega)]; exact D6.1) (by omega) (by omega) c_163
                          rw [List.take_of_length_le hge] at hZ
                          refine pw_iconst (x := 0) h d_X8_read_189 (by decide) ?_
                          refine pw_nmI (fun v3_190 e3_190 => ?_)
                          refine pw_istore_n (lv' := [(3, .int v3_190), (0, .ref m)]) h d_X8_read_190 rfl _ hml (by decide) rfl ?_
                          have cut_191 : ∀ (N k : Nat) (v : Int32), 13 < k + N → k ≤ 13 → v = nI k → PW X 191 [(0, .ref m), (3, .int v)] [] sh (u1 I7 (m + 5) (fun j => if j < k then I7 (m + 10) j else I7 (m + 5) j)) L R 0 0 := by
                            intro N
                            induction N with
                            | zero => intros; omega
                            | succ N ihp =>
                              intro k v hN hk ev
                              refine pw_iload_n h 1 d_X8_read_191 rfl ?_
                              refine pw_bipush (x := 13) h d_X8_read_192 (by decide) ?_
                              refine pw_icmp_ge 215 h d_X8_read_194 (by decide) (fun c_194 => ?_) (fun c_194 => ?_)
                              · skip
                                have hge := k_ge ev (n := 13) rfl (by omega) (by omega) c_194
                                have e9 : k = 13 := by omega
                                subst e9
                                refine pw_aload_n h 0 d_X8_read_215 rfl ?_
                                refine pw_aload_n h 0 d_X8_read_216 rfl ?_
                                refine pw_getI 8 h d_X8_read_217 fd_RX8_184 (by assumption) rfl ?_
                                refine pw_putI 8 h d_X8_read_220 fd_RX8_28 (by assumption) rfl rfl rfl rfl ?_
                                refine pw_aload_n h 0 d_X8_read_223 rfl ?_
                                refine pw_getI 8 h d_X8_read_224 fd_RX8_109 (by assumption) rfl ?_
                                refine pw_iret h hr d_X8_read_227 rfl (by decide) (by decide) ?_
                                exact rea_ok hZ o7 F6 t6 D6 R5.2.2.2.2.2.1 hpe rfl
                              · skip
                                have hlt := k_lt ev (n := 13) rfl (by omega) (by omega) c_194
                                have hx : px_ix v 13 k := k_ix ev hlt (by decide)
                                refine pw_aload_n h 0 d_X8_read_197 rfl ?_
                                refine pw_getR (j := (m + 5)) 8 h d_X8_read_198 fd_RX8_22 (by assumption) rfl (by assumption) ?_
                                refine pw_iload_n h 1 d_X8_read_201 rfl ?_
                                refine pw_aload_n h 0 d_X8_read_202 rfl ?_
                                refine pw_getR (j := (m + 10)) 8 h d_X8_read_203 fd_RX8_41 (by assumption) rfl (by assumption) ?_
                                refine pw_iload_n h 1 d_X8_read_206 rfl ?_
                                refine pw_iald h d_X8_read_207 (by assumption) (by assumption) ?_
                                refine pw_iast h d_X8_read_208 (by assumption) (by assumption) ?_
                                obtain ⟨v3_209, e3_209⟩ : ∃ z : Int32, z = v + (1) := ⟨_, rfl⟩
                                refine pw_iinc (lv' := [(3, .int v3_209), (0, .ref m)]) v3_209 h d_X8_read_209 1 rfl e3_209.symm _ hml (by decide) rfl ?_
                                refine pw_goto 191 h d_X8_read_212 (by decide) ?_
                                refine PW.perm [1, 0] rfl ?_
                                refine pw_mem ?_ rfl rfl (ihp (k + 1) v3_209 (by omega) (by omega) (k_up e3_209 ev))
                                rw [u1_n (by omega)]
                                exact u1_stepF (F := fun j => I7 (m + 10) j)
                          refine PW.perm [1, 0] rfl ?_
                          refine pw_mem ?_ rfl rfl (cut_191 14 0 v3_190 (by omega) (by omega) e3_190)
                          exact u1_noneF (F := fun j => I7 (m + 10) j) (fun _ => rfl)
                        · skip
                          have hlt := k_lt ev (show I7 m 12 = nI D.1.length by rw [o7 _ _ (by omega)]; exact D6.1) (by omega) (by omega) c_163
                          have hx : px_ix v 6 b := k_ix ev (by omega) (by decide)
                          obtain ⟨x, ex⟩ : ∃ x, D.1[b]? = some x := ⟨_, List.getElem?_eq_getElem hlt⟩
                          have hnb : I7 m 0 = nI b := by rw [hZ.1.1, foldI_l, List.length_take]; congr 1; omega
                          refine pw_aload_n h 0 d_X8_read_166 rfl ?_
                          refine pw_aload_n h 0 d_X8_read_167 rfl ?_
                          refine pw_getR (j := (m + 8)) 8 h d_X8_read_168 fd_RX8_35 (by assumption) rfl (by assumption) ?_
                          refine pw_iload_n h 1 d_X8_read_171 rfl ?_
                          refine pw_iald h d_X8_read_172 (by assumption) (by assumption) ?_
                          refine pw_aload_n h 0 d_X8_read_173 rfl ?_
                          refine pw_getR (j := (m + 9)) 8 h d_X8_read_174 fd_RX8_38 (by assumption) rfl (by assumption) ?_
                          refine pw_iload_n h 1 d_X8_read_177 rfl ?_
                          refine pw_iald h d_X8_read_178 (by assumption) (by assumption) ?_
                          refine pw_callV (As := [.int _, .int _]) h d_X8_read_179 mf_X8_puts mi_X8_puts ml_RX8_124 ⟨by decide, by decide, by decide⟩ (by assumption) rfl rfl (Nat.le_of_ble_eq_true rfl) trivial (c_X8_puts hM0 hnb (by omega) (by omega) _ _) ?_
                          intro ret8 sh8 I8 L8 R8 hp8
                          obtain ⟨e0, e1, eI, eL, eR⟩ := hp8
                          subst e0
                          have e1 := e1.symm
                          have eR := eR.symm
                          have eL := eL.symm
                          subst e1
                          subst eR
                          subst eL
                          refine ⟨rfl, ?_⟩
                          have hZ8 : LinZ I8 m (foldI (D.1.take (b + 1))) := by rw [eI]; exact linM_s hZ o7 D6 R5.2.2.2.2.2.1 hlt ex
                          have o8 : ∀ c k, (c < m ∨ (c = m ∧ k ≠ 0) ∨ m + 4 < c) → I8 c k = I6 c k := fun c k q => by rw [eI, insM_fr q]; exact o7 c k q
                          clear eI
                          refine pw_popI h d_X8_read_182 ?_
                          obtain ⟨v3_183, e3_183⟩ : ∃ z : Int32, z = v + (1) := ⟨_, rfl⟩
                          refine pw_iinc (lv' := [(3, .int v3_183), (0, .ref m)]) v3_183 h d_X8_read_183 1 rfl e3_183.symm _ hml (by decide) rfl ?_
                          refine pw_goto 158 h d_X8_read_186 (by decide) ?_
                          refine PW.perm [1, 0] rfl ?_
                          exact ihb (b + 1) v3_183 I8 (by omega) (by omega) (k_up e3_183 ev) hZ8 o8
                    refine PW.perm [1, 0] rfl ?_
                    exact cut_158 (D.1.length + 1) 0 v3_157 _ (by omega) (Nat.zero_le _) e3_157 LinZ_0 (fun c k q => by unfold u2; rw [if_neg (by omega)])
                  · exact absurd w6 c_140
                · skip
                  have hge : ¬ T ≤ skB (I (m + 7)) e T := by rw [x2, hbe] at c_120; exact nx0_n c_120
                  have hpe := hn hge
                  refine pw_iconst (x := 1) h d_X8_read_123 (by decide) ?_
                  refine pw_goto 128 h d_X8_read_124 (by decide) ?_
                  refine pw_putI 8 h d_X8_read_128 fd_RX8_166 (by assumption) rfl rfl rfl (by first | exact Or.inl rfl | exact Or.inr rfl | rfl | decide) ?_
                  refine pw_aload_n h 0 d_X8_read_131 rfl ?_
                  refine pw_iconst (x := 0) h d_X8_read_132 (by decide) ?_
                  refine pw_putI 8 h d_X8_read_133 fd_RX8_160 (by assumption) rfl rfl rfl rfl ?_
                  obtain ⟨I6, eI6⟩ : ∃ I6, I6 = endM m I5 1 := ⟨_, rfl⟩
                  refine pw_mem (I' := I6) eI6.symm rfl rfl ?_
                  have F6 : frW m I I6 := by rw [eI6]; exact endM_F fM5
                  have t6 : I6 m 9 = 0 := by rw [eI6]; exact endM_t
                  have w6 : I6 m 11 = 1 := by rw [eI6]; exact endM_w
                  have a6 : I6 m 10 = nI (skB (I (m + 7)) e T) := by rw [eI6]; exact (endM_o (by omega)).trans R5.2.1
                  refine pw_aload_n h 0 d_X8_read_136 rfl ?_
                  refine pw_getI 8 h d_X8_read_137 fd_RX8_166 (by assumption) rfl ?_
                  refine pw_if_eq 151 h d_X8_read_140 (by decide) (fun c_140 => ?_) (fun c_140 => ?_)
                  · exact absurd (w6.symm.trans c_140) (by decide)
                  · skip
                    refine pw_bipush (x := (-20)) h d_X8_read_143 (by decide) ?_
                    refine pw_aload_n h 0 d_X8_read_145 rfl ?_
                    refine pw_getI 8 h d_X8_read_146 fd_RX8_163 (by assumption) rfl ?_
                    refine pw_isub h d_X8_read_149 ?_
                    refine pw_iret h hr d_X8_read_150 rfl (by decide) (by decide) ?_
                    exact rea_no F6 t6 a6 hpe
            · skip
              obtain ⟨_, hk20, a, D, R2, hq⟩ := hst.2.resolve_right (fun q => c_49 q.1)
              refine pw_aload_n h 0 d_X8_read_52 rfl ?_
              refine pw_callV (As := []) h d_X8_read_53 mf_X8_clause mi_X8_clause ml_RX8_191 ⟨by decide, by decide, by decide⟩ (by assumption) rfl rfl (Nat.le_of_ble_eq_true rfl) trivial (c_X8_clause hM0 R2) ?_
              intro ret3 sh3 I3 L3 R3_ hp3
              obtain ⟨e0, e1, eR, eL, f3, hx3⟩ := hp3
              subst e0
              have e1 := e1.symm
              have eR := eR.symm
              have eL := eL.symm
              subst e1
              subst eR
              subst eL
              rw [x2] at hx3
              have fM3 : frM m I I3 := frM_t hst.1 f3
              refine ⟨rfl, ?_⟩
              obtain ⟨v1_56, e1_56⟩ : ∃ z : Int32, z = c + (1) := ⟨_, rfl⟩
              refine pw_iinc (lv' := [(1, .int v1_56), (0, .ref m), (2, .int mo)]) v1_56 h d_X8_read_56 1 rfl e1_56.symm _ hml (by decide) rfl ?_
              refine pw_aload_n h 1 d_X8_read_59 rfl ?_
              refine pw_getI 8 h d_X8_read_60 fd_RX8_166 (by assumption) rfl ?_
              refine pw_if_ne 85 h d_X8_read_63 (by decide) (fun c_63 => ?_) (fun c_63 => ?_)
              · skip
                have hbad := hx3.resolve_left (fun q => by obtain ⟨D', _, r⟩ := q; exact c_63 r.2.2.1)
                refine pw_iconst (x := 0) h d_X8_read_85 (by decide) ?_
                refine pw_nmI (fun v2_86 e2_86 => ?_)
                refine pw_istore_n (lv' := [(2, .int v2_86), (1, .int v1_56), (0, .ref m)]) h d_X8_read_86 rfl _ hml (by decide) rfl ?_
                refine pw_aload_n h 2 d_X8_read_87 rfl ?_
                refine pw_dupR h d_X8_read_88 ?_
                refine pw_getI 8 h d_X8_read_89 fd_RX8_163 (by assumption) rfl ?_
                refine pw_iload_n h 0 d_X8_read_92 rfl ?_
                refine pw_if_eq 100 h d_X8_read_93 (by decide) (fun c_93 => ?_) (fun c_93 => ?_)
                · skip
                  refine pw_iconst (x := 0) h d_X8_read_100 (by decide) ?_
                  refine pw_iadd h d_X8_read_101 ?_
                  refine pw_putI 8 h d_X8_read_102 fd_RX8_163 (by assumption) rfl rfl rfl rfl ?_
                  refine pw_goto 48 h d_X8_read_105 (by decide) ?_
                  refine PW.perm [2, 1, 0] rfl ?_
                  refine pw_mem (I' := addA m I3 0) rfl rfl rfl ?_
                  exact ih (k + 1) v1_56 v2_86 _ (by omega) (by omega) (k_up e1_56 ec) ⟨frM_t fM3 (frM_N addA_fr), Or.inr ⟨e2_86, Or.inl ⟨addA_w.trans hbad.2.1, _, addA_0 hbad.2.2, hq.symm.trans (px_no rfl hbad.1)⟩⟩⟩
                · exact absurd e2_86 c_93
              · skip
                obtain ⟨D', hD2, R3⟩ := hx3.resolve_right (fun q => absurd (q.2.1.symm.trans c_63) (by decide))
                have x3 : I3 (m + 7) = I (m + 7) := frM_f fM3
                refine pw_iload_n h 0 d_X8_read_66 rfl ?_
                refine pw_bipush (x := 20) h d_X8_read_67 (by decide) ?_
                refine pw_icmp_ge 85 h d_X8_read_69 (by decide) (fun c_69 => ?_) (fun c_69 => ?_)
                · skip
                  have hge := k_ge (k_up e1_56 ec) (n := 20) rfl (by omega) (by omega) c_69
                  refine pw_iconst (x := 0) h d_X8_read_85 (by decide) ?_
                  refine pw_nmI (fun v2_86 e2_86 => ?_)
                  refine pw_istore_n (lv' := [(2, .int v2_86), (1, .int v1_56), (0, .ref m)]) h d_X8_read_86 rfl _ hml (by decide) rfl ?_
                  refine pw_aload_n h 2 d_X8_read_87 rfl ?_
                  refine pw_dupR h d_X8_read_88 ?_
                  refine pw_getI 8 h d_X8_read_89 fd_RX8_163 (by assumption) rfl ?_
                  refine pw_iload_n h 0 d_X8_read_92 rfl ?_
                  refine pw_if_eq 100 h d_X8_read_93 (by decide) (fun c_93 => ?_) (fun c_93 => ?_)
                  · skip
                    refine pw_iconst (x := 0) h d_X8_read_100 (by decide) ?_
                    refine pw_iadd h d_X8_read_101 ?_
                    refine pw_putI 8 h d_X8_read_102 fd_RX8_163 (by assumption) rfl rfl rfl rfl ?_
                    refine pw_goto 48 h d_X8_read_105 (by decide) ?_
                    refine PW.perm [2, 1, 0] rfl ?_
                    refine pw_mem (I' := addA m I3 0) rfl rfl rfl ?_
                    exact ih (k + 1) v1_56 v2_86 _ (by omega) (by omega) (k_up e1_56 ec) ⟨frM_t fM3 (frM_N addA_fr), Or.inr ⟨e2_86, Or.inr ⟨addA_w.trans R3.2.2.1, _, (pCl (I (m + 7)) T a D).1, D', RdM_N R3 addA_fr (addA_0 R3.2.1) (addA_w.trans R3.2.2.1) R3.2.2.2.1, rfl, fun q => hq.symm.trans (px_end rfl hD2 q), fun q => hq.symm.trans (px_bad rfl hD2 q (Or.inr (by omega)))⟩⟩⟩
                  · exact absurd e2_86 c_93
                · skip
                  have hlk := k_lt (k_up e1_56 ec) (n := 20) rfl (by omega) (by omega) c_69
                  refine pw_aload_n h 1 d_X8_read_72 rfl ?_
                  refine pw_callV (As := []) h d_X8_read_73 mf_X8_next mi_X8_next ml_RX8_170 ⟨by decide, by decide, by decide⟩ (by assumption) rfl rfl (Nat.le_of_ble_eq_true rfl) trivial (c_X8_next hM0 R3.1 R3.2.1 hT2 R3.2.2.2.1) ?_
                  intro ret4 sh4 I4 L4 R4_ hp4
                  obtain ⟨e0, e1, eI, eL, eR⟩ := hp4
                  subst e0
                  have e1 := e1.symm
                  have eR := eR.symm
                  have eL := eL.symm
                  subst e1
                  subst eR
                  subst eL
                  refine ⟨rfl, ?_⟩
                  have f4 : frN m I3 I4 := by rw [eI]; exact frN_u (Or.inl rfl)
                  have R4 : RdM I4 m T (skB (I (m + 7)) (pCl (I (m + 7)) T a D).1 T) (I m 7) D' := RdM_N R3 f4 (by rw [eI, x3]; exact u2_s) (by rw [eI, u2_n2 (by decide)]; exact R3.2.2.1) (skT R3.2.2.2.1)
                  have fM4 : frM m I I4 := frM_t fM3 (frM_N f4)
                  clear eI
                  refine pw_bipush (x := 59) h d_X8_read_76 (by decide) ?_
                  refine pw_icmp_ne 85 h d_X8_read_78 (by decide) (fun c_78 => ?_) (fun c_78 => ?_)
                  · skip
                    have hne : ¬ nxt (I (m + 7)) (skB (I (m + 7)) (pCl (I (m + 7)) T a D).1 T) T = 59 := by rw [x3] at c_78; exact fun q => c_78 ((nx0_c (by decide) (by decide)).mpr q)
                    refine pw_iconst (x := 0) h d_X8_read_85 (by decide) ?_
                    refine pw_nmI (fun v2_86 e2_86 => ?_)
                    refine pw_istore_n (lv' := [(2, .int v2_86), (1, .int v1_56), (0, .ref m)]) h d_X8_read_86 rfl _ hml (by decide) rfl ?_
                    refine pw_aload_n h 2 d_X8_read_87 rfl ?_
                    refine pw_dupR h d_X8_read_88 ?_
                    refine pw_getI 8 h d_X8_read_89 fd_RX8_163 (by assumption) rfl ?_
                    refine pw_iload_n h 0 d_X8_read_92 rfl ?_
                    refine pw_if_eq 100 h d_X8_read_93 (by decide) (fun c_93 => ?_) (fun c_93 => ?_)
                    · skip
                      refine pw_iconst (x := 0) h d_X8_read_100 (by decide) ?_
                      refine pw_iadd h d_X8_read_101 ?_
                      refine pw_putI 8 h d_X8_read_102 fd_RX8_163 (by assumption) rfl rfl rfl rfl ?_
                      refine pw_goto 48 h d_X8_read_105 (by decide) ?_
                      refine PW.perm [2, 1, 0] rfl ?_
                      refine pw_mem (I' := addA m I4 0) rfl rfl rfl ?_
                      exact ih (k + 1) v1_56 v2_86 _ (by omega) (by omega) (k_up e1_56 ec) ⟨frM_t fM4 (frM_N addA_fr), Or.inr ⟨e2_86, Or.inr ⟨addA_w.trans R4.2.2.1, _, (pCl (I (m + 7)) T a D).1, D', RdM_N R4 addA_fr (addA_0 R4.2.1) (addA_w.trans R4.2.2.1) R4.2.2.2.1, skB_idem R3.2.2.2.1, fun q => hq.symm.trans (px_end rfl hD2 q), fun q => hq.symm.trans (px_bad rfl hD2 q (Or.inl hne))⟩⟩⟩
                    · exact absurd e2_86 c_93
                  · skip
                    have heq : nxt (I (m + 7)) (skB (I (m + 7)) (pCl (I (m + 7)) T a D).1 T) T = 59 := by rw [x3] at c_78; exact (nx0_c (by decide) (by decide)).mp c_78
                    have hl4 := nxt_lt heq (by decide)
                    refine pw_iconst (x := 1) h d_X8_read_81 (by decide) ?_
                    refine pw_goto 86 h d_X8_read_82 (by decide) ?_
                    refine pw_nmI (fun v2_86 e2_86 => ?_)
                    refine pw_istore_n (lv' := [(2, .int v2_86), (1, .int v1_56), (0, .ref m)]) h d_X8_read_86 rfl _ hml (by decide) rfl ?_
                    refine pw_aload_n h 2 d_X8_read_87 rfl ?_
                    refine pw_dupR h d_X8_read_88 ?_
                    refine pw_getI 8 h d_X8_read_89 fd_RX8_163 (by assumption) rfl ?_
                    refine pw_iload_n h 0 d_X8_read_92 rfl ?_
                    refine pw_if_eq 100 h d_X8_read_93 (by decide) (fun c_93 => ?_) (fun c_93 => ?_)
                    · exact absurd (e2_86.symm.trans c_93) (by decide)
                    · skip
                      refine pw_iconst (x := 1) h d_X8_read_96 (by decide) ?_
                      refine pw_goto 101 h d_X8_read_97 (by decide) ?_
                      refine pw_iadd h d_X8_read_101 ?_
                      refine pw_putI 8 h d_X8_read_102 fd_RX8_163 (by assumption) rfl rfl rfl rfl ?_
                      refine pw_goto 48 h d_X8_read_105 (by decide) ?_
                      refine PW.perm [2, 1, 0] rfl ?_
                      refine pw_mem (I' := addA m I4 1) rfl rfl rfl ?_
                      exact ih (k + 1) v1_56 v2_86 _ (by omega) (by omega) (k_up e1_56 ec) ⟨frM_t fM4 (frM_N addA_fr), Or.inl ⟨e2_86, by omega, _, D', RdM_N R4 addA_fr (addA_1 R4.2.1) (addA_w.trans R4.2.2.1) hl4, by rw [← hq, show 19 - k = 19 - (k + 1) + 1 by omega]; exact (px_go2 rfl hD2 (Nat.not_le.mpr hl4) heq).symm⟩⟩
        refine PW.perm [2, 1, 0] rfl ?_
        exact cut_48 21 0 v1_45 v2_47 _ (by omega) (by omega) e1_45 ⟨fM1, Or.inl ⟨e2_47, by decide, 0, dr0, R1, rfl⟩⟩
      · skip
        have hlt := k_lt ev (n := 13) rfl (by omega) (by omega) c_28
        have hx : px_ix v 13 k := k_ix ev hlt (by decide)
        refine pw_aload_n h 0 d_X8_read_31 rfl ?_
        refine pw_getR (j := (m + 10)) 8 h d_X8_read_32 fd_RX8_41 (by assumption) rfl (by assumption) ?_
        refine pw_iload_n h 1 d_X8_read_35 rfl ?_
        refine pw_iconst (x := 0) h d_X8_read_36 (by decide) ?_
        refine pw_iast h d_X8_read_37 (by assumption) (by assumption) ?_
        obtain ⟨v1_38, e1_38⟩ : ∃ z : Int32, z = v + (1) := ⟨_, rfl⟩
        refine pw_iinc (lv' := [(1, .int v1_38), (0, .ref m)]) v1_38 h d_X8_read_38 1 rfl e1_38.symm _ hml (by decide) rfl ?_
        refine pw_goto 25 h d_X8_read_41 (by decide) ?_
        refine PW.perm [1, 0] rfl ?_
        refine pw_mem ?_ rfl rfl (ih (k + 1) v1_38 (by omega) (by omega) (k_up e1_38 ev))
        exact u1_step
  refine PW.perm [1, 0] rfl ?_
  refine pw_mem ?_ rfl rfl (cut_25 14 0 v1_24 (by omega) (by omega) e1_24)
  exact u1_none (fun _ => rfl)
