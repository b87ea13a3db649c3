set_option maxHeartbeats 4000000 in
set_option maxRecDepth 100000 in
theorem c_X8_isPart {sh : Sh} {I : IM} {L : LM} {R : RM} {m : Nat} {A : LA} (hM : ModF sh R m) (hm : MSm I m A) (a : okA A) {st p fr to : Nat} {s pc lf : Int32} (hst : st < 4) (es : s = nI st) (ep : pc = nI p) (hp : p < 13) (hsd : ∀ r, r < 13 → ((if r < p then (1 : Int32) else 0) = lf ↔ fr ≤ r ∧ r < to)) : PMet M_X8_isPart [.ref m, .int s, .int pc, .int lf] sh I L R (iptP sh I L R m A st fr to) := by
  refine PMet.of mf_X8_isPart (Nat.le_of_ble_eq_true rfl) ?_
  intro X h hr hml
  have hml : (xc X).maxLocals = 6 := hml
  have h : PXok X RX8 cX8_isPart 6 0 0 := h
  have hr : PXr X (some .boolean) "isPart" _ 0 0 := hr
  have hM0 := hM
  obtain ⟨f0, f1, f2, f3, f4, f5, f6, f7, f8, f9, f10, f11, f12, f13, f14, f15, f16, f17, f18, f19, f20, f21, f22, f23, f24, f25, f26, f27, g1, g2, g3, g4, g5, g6, g7, g8, g9, g10, g11, g12, g13, g14, g15, g16, g17, g18, g19, g20, g21, g22, g23, g24, g25, g26, g27⟩ := hM
  have hn := hm.1
  have h6 := a.1
  show PW X 0 [(0, .ref m), (1, .int s), (2, .int pc), (3, .int lf)] [] sh I L R 0 0
  refine pw_aload_n h 0 d_X8_isPart_0 rfl ?_
  refine pw_iload_n h 1 d_X8_isPart_1 rfl ?_
  refine pw_iconst (x := (-1)) h d_X8_isPart_2 (by decide) ?_
  refine pw_iconst (x := 0) h d_X8_isPart_3 (by decide) ?_
  refine pw_callV (As := [.int _, .int _, .int _]) h d_X8_isPart_4 mf_X8_stands mi_X8_stands ml_RX8_292 ⟨by decide, by decide, by decide⟩ (by assumption) rfl rfl (Nat.le_of_ble_eq_true rfl) trivial (c_X8_stands hM0 hm a hst es (std_A a _ _ (-4)) (by decide)) ?_
  intro ret1 sh1 I1 L1 R1_ hp1
  obtain ⟨e0, e1, eR, eL, fs1, hc1, hj1⟩ := hp1
  subst e0
  have e1 := e1.symm
  have eR := eR.symm
  have eL := eL.symm
  subst e1
  subst eR
  subst eL
  refine ⟨rfl, ?_⟩
  have fM1 : frMI m I I1 := frMI_S fs1
  have hm1 := MSm_MI hm fM1
  refine pw_iconst (x := 0) h d_X8_isPart_7 (by decide) ?_
  refine pw_nmI (fun v4_8 e4_8 => ?_)
  refine pw_istore (lv' := [(4, .int v4_8), (0, .ref m), (1, .int s), (2, .int pc), (3, .int lf)]) h d_X8_isPart_8 _ hml (by decide) rfl ?_
  refine pw_iconst (x := 0) h d_X8_isPart_10 (by decide) ?_
  refine pw_nmI (fun v5_11 e5_11 => ?_)
  refine pw_istore (lv' := [(5, .int v5_11), (4, .int v4_8), (0, .ref m), (1, .int s), (2, .int pc), (3, .int lf)]) h d_X8_isPart_11 _ hml (by decide) rfl ?_
  have cut_13 : ∀ (N k : Nat) (y v : Int32), aN A < k + N → k ≤ aN A → v = nI k → y = bitF (gsB A fr to) k → PW X 13 [(0, .ref m), (1, .int s), (2, .int pc), (3, .int lf), (4, .int y), (5, .int v)] [] sh I1 L R 0 0 := by
    intro N
    induction N with
    | zero => intros; omega
    | succ N ih =>
      intro k y v hN hk ev ey
      refine pw_iload h 5 d_X8_isPart_13 rfl ?_
      refine pw_aload_n h 0 d_X8_isPart_15 rfl ?_
      refine pw_getI 8 h d_X8_isPart_16 fd_RX8_264 (by assumption) rfl ?_
      refine pw_icmp_ge 61 h d_X8_isPart_19 (by decide) (fun c_19 => ?_) (fun c_19 => ?_)
      · skip
        have hge : aN A ≤ k := k_ge ev hc1.1 (by omega) (by omega) c_19
        have e9 : k = aN A := by omega
        rw [e9] at ey
        refine pw_iconst (x := 0) h d_X8_isPart_61 (by decide) ?_
        refine pw_nmI (fun v5_62 e5_62 => ?_)
        refine pw_istore (lv' := [(5, .int v5_62), (0, .ref m), (1, .int s), (2, .int pc), (3, .int lf), (4, .int y)]) h d_X8_isPart_62 _ hml (by decide) rfl ?_
        have cut_64 : ∀ (N t : Nat) (u : Int32) (I3 : IM), 13 < t + N → t ≤ 13 → u = nI t → (∀ a j, a ≠ m + 13 → I3 a j = I1 a j) → (∀ r, r < t → ((I3 (m + 13) r).toInt : Rat) = wCut A fr to r) → PW X 64 [(0, .ref m), (1, .int s), (2, .int pc), (3, .int lf), (4, .int y), (5, .int u)] [] sh I3 L R 0 0 := by
          intro N
          induction N with
          | zero => intros; omega
          | succ N ihr =>
            intro t u I3 hN ht eu f3 g3
            refine pw_iload h 5 d_X8_isPart_64 rfl ?_
            refine pw_bipush (x := 13) h d_X8_isPart_66 (by decide) ?_
            refine pw_icmp_ge 110 h d_X8_isPart_68 (by decide) (fun c_68 => ?_) (fun c_68 => ?_)
            · skip
              have hge := k_ge eu (n := 13) rfl (by omega) (by omega) c_68
              have e9 : t = 13 := by omega
              subst e9
              have hc3 := CnM_p hc1 f3 g3
              have fM3 := frMI_13 fM1 f3
              refine pw_aload_n h 0 d_X8_isPart_110 rfl ?_
              refine pw_iload h 4 d_X8_isPart_111 rfl ?_
              refine pw_callV (As := [.int _]) h d_X8_isPart_113 mf_X8_chooses mi_X8_chooses ml_RX8_270 ⟨by decide, by decide, by decide⟩ (by assumption) rfl rfl (Nat.le_of_ble_eq_true rfl) trivial (c_X8_chooses hM0 hc3.1 (by omega) _) ?_
              intro ret4 sh4 I4 L4 R4_ hp4
              obtain ⟨e0, e1, eI, eL, eR⟩ := hp4
              subst e0
              have e1 := e1.symm
              have eR := eR.symm
              have eL := eL.symm
              subst e1
              subst eR
              subst eL
              refine ⟨rfl, ?_⟩
              have hsel : ∀ k, k < aN A → selM y k = (gsB A fr to) k := fun k hk => by rw [ey]; exact bit_at7 (aN A) (by omega) (gsB A fr to) k hk
              have hS4 : 2 ≤ cntS (gsB A fr to) (aN A) → SolM I4 m (cntS (gsB A fr to) (aN A) - 2) (lyN (gsB A fr to) (aQ A) (aN A)) (lyQ (gsB A fr to) (hgt A st) (aN A)) (wCut A fr to) (stf A) := by rw [eI]; exact fun h2 => ch_sol2 hc3 hsel h2
              have fM4 : frMI m I I4 := frMI_t fM3 (by rw [eI]; exact frMI_C frCh_ch)
              have hmany : I4 m 19 = nI (cntS (gsB A fr to) (aN A)) := by rw [eI, chI_c, cntS_congr (aN A) hsel]
              have hle := cntS_le (s := (gsB A fr to)) (aN A)
              clear eI
              refine pw_aload_n h 0 d_X8_isPart_116 rfl ?_
              refine pw_getI 8 h d_X8_isPart_117 fd_RX8_215 (by assumption) rfl ?_
              refine pw_iconst (x := 1) h d_X8_isPart_120 (by decide) ?_
              refine pw_icmp_le 128 h d_X8_isPart_121 (by decide) (fun c_121 => ?_) (fun c_121 => ?_)
              · skip
                have h2g : ¬ 2 ≤ cntS (gsB A fr to) (aN A) := by have q9 := k_le2 hmany (c := 1) (n := 1) rfl (by omega) (by decide) c_121; omega
                refine pw_aload_n h 0 d_X8_isPart_128 rfl ?_
                refine pw_getI 8 h d_X8_isPart_129 fd_RX8_215 (by assumption) rfl ?_
                refine pw_iconst (x := 1) h d_X8_isPart_132 (by decide) ?_
                refine pw_icmp_le 140 h d_X8_isPart_133 (by decide) (fun c_133 => ?_) (fun c_133 => ?_)
                · skip
                  refine pw_iconst (x := 0) h d_X8_isPart_140 (by decide) ?_
                  refine pw_iret h hr d_X8_isPart_141 (by decide) (by decide) (by decide) ?_
                  exact ⟨rfl, rfl, fM4, frML_0, Or.inl ⟨h2g, rfl⟩⟩
                · exact absurd (k_gt2 hmany (c := 1) (n := 1) rfl (by omega) (by decide) c_133) h2g
              · skip
                have h2g : 2 ≤ cntS (gsB A fr to) (aN A) := k_gt2 hmany (c := 1) (n := 1) rfl (by omega) (by decide) c_121
                refine pw_aload_n h 0 d_X8_isPart_124 rfl ?_
                refine pw_callV (As := []) h d_X8_isPart_125 mf_X8_goes mi_X8_goes ml_RX8_274 ⟨by decide, by decide, by decide⟩ (by assumption) rfl rfl (Nat.le_of_ble_eq_true rfl) trivial (c_X8_goes hM0 (okS_B (okA_C a hst fr to) h2g) (hS4 h2g)) ?_
                intro ret5 sh5 I5 L5 R5_ hp5
                obtain ⟨e0, e1, eR, eI, hgo⟩ := hp5
                subst e0
                have e1 := e1.symm
                have eR := eR.symm
                have eI := eI.symm
                subst e1
                subst eR
                subst eI
                refine ⟨rfl, ?_⟩
                have fL5 : frML m L L5 := frML_G (frG_go hgo.1)
                refine pw_aload_n h 0 d_X8_isPart_128 rfl ?_
                refine pw_getI 8 h d_X8_isPart_129 fd_RX8_215 (by assumption) rfl ?_
                refine pw_iconst (x := 1) h d_X8_isPart_132 (by decide) ?_
                refine pw_icmp_le 140 h d_X8_isPart_133 (by decide) (fun c_133 => ?_) (fun c_133 => ?_)
                · exact absurd h2g (by have q9 := k_le2 hmany (c := 1) (n := 1) rfl (by omega) (by decide) c_133; omega)
                · skip
                  refine pw_iconst (x := 1) h d_X8_isPart_136 (by decide) ?_
                  refine pw_goto 141 h d_X8_isPart_137 (by decide) ?_
                  refine pw_iret h hr d_X8_isPart_141 (by decide) (by decide) (by decide) ?_
                  exact ⟨rfl, rfl, fM4, fL5, Or.inr ⟨h2g, rfl, hS4 h2g, fun j hj => hgo.2.2.2 j hj⟩⟩
            · skip
              have hr13 : t < 13 := k_lt eu (n := 13) rfl (by omega) (by omega) c_68
              have hxt : px_ix u 13 t := k_ix eu hr13 (by decide)
              refine pw_aload_n h 0 d_X8_isPart_71 rfl ?_
              refine pw_getR (j := (m + 13)) 8 h d_X8_isPart_72 fd_RX8_54 (by assumption) rfl (by assumption) ?_
              refine pw_iload h 5 d_X8_isPart_75 rfl ?_
              refine pw_iload h 5 d_X8_isPart_77 rfl ?_
              refine pw_iload_n h 2 d_X8_isPart_79 rfl ?_
              refine pw_icmp_ge 87 h d_X8_isPart_80 (by decide) (fun c_80 => ?_) (fun c_80 => ?_)
              · skip
                have hrp : ¬ t < p := by have q9 := k_ge eu ep (by omega) (by omega) c_80; omega
                refine pw_iconst (x := 0) h d_X8_isPart_87 (by decide) ?_
                refine pw_iload_n h 3 d_X8_isPart_88 rfl ?_
                refine pw_icmp_ne 102 h d_X8_isPart_89 (by decide) (fun c_89 => ?_) (fun c_89 => ?_)
                · skip
                  have hg : ¬ (fr ≤ t ∧ t < to) := fun q9 => by
                    have q8 := (hsd _ hr13).mpr q9
                    rw [if_neg hrp] at q8
                    exact c_89 q8
                  refine pw_iconst (x := 0) h d_X8_isPart_102 (by decide) ?_
                  refine pw_iast h d_X8_isPart_103 (by assumption) (by assumption) ?_
                  obtain ⟨v5_104, e5_104⟩ : ∃ z : Int32, z = u + (1) := ⟨_, rfl⟩
                  refine pw_iinc (lv' := [(5, .int v5_104), (0, .ref m), (1, .int s), (2, .int pc), (3, .int lf), (4, .int y)]) v5_104 h d_X8_isPart_104 5 rfl e5_104.symm _ hml (by decide) rfl ?_
                  refine pw_goto 64 h d_X8_isPart_107 (by decide) ?_
                  refine PW.perm [1, 2, 3, 4, 5, 0] rfl ?_
                  refine ihr (t + 1) _ _ (by omega) (by omega) (k_up e5_104 eu) (fun b j q9 => by rw [u2_n1 q9]; exact f3 b j q9) (fun r hr => ?_)
                  by_cases e9 : r = t
                  · rw [e9, u2_s]; exact wc_out hg
                  · rw [u2_n2 e9]; exact g3 r (by omega)
                · skip
                  have hg : fr ≤ t ∧ t < to := (hsd _ hr13).mp (by rw [if_neg hrp]; exact c_89)
                  refine pw_aload_n h 0 d_X8_isPart_92 rfl ?_
                  refine pw_getR (j := (m + 5)) 8 h d_X8_isPart_93 fd_RX8_22 (by assumption) rfl (by assumption) ?_
                  refine pw_iload h 5 d_X8_isPart_96 rfl ?_
                  refine pw_iald h d_X8_isPart_98 (by assumption) (by assumption) ?_
                  refine pw_goto 103 h d_X8_isPart_99 (by decide) ?_
                  refine pw_iast h d_X8_isPart_103 (by assumption) (by assumption) ?_
                  obtain ⟨v5_104, e5_104⟩ : ∃ z : Int32, z = u + (1) := ⟨_, rfl⟩
                  refine pw_iinc (lv' := [(5, .int v5_104), (0, .ref m), (1, .int s), (2, .int pc), (3, .int lf), (4, .int y)]) v5_104 h d_X8_isPart_104 5 rfl e5_104.symm _ hml (by decide) rfl ?_
                  refine pw_goto 64 h d_X8_isPart_107 (by decide) ?_
                  refine PW.perm [1, 2, 3, 4, 5, 0] rfl ?_
                  refine ihr (t + 1) _ _ (by omega) (by omega) (k_up e5_104 eu) (fun b j q9 => by rw [u2_n1 q9]; exact f3 b j q9) (fun r hr => ?_)
                  by_cases e9 : r = t
                  · rw [e9, u2_s]; exact wc_in (by rw [f3 _ _ (by omega)]; exact hm1.2.2.2.1 t hr13) hg
                  · rw [u2_n2 e9]; exact g3 r (by omega)
              · skip
                have hrp : t < p := k_lt eu ep (by omega) (by omega) c_80
                refine pw_iconst (x := 1) h d_X8_isPart_83 (by decide) ?_
                refine pw_goto 88 h d_X8_isPart_84 (by decide) ?_
                refine pw_iload_n h 3 d_X8_isPart_88 rfl ?_
                refine pw_icmp_ne 102 h d_X8_isPart_89 (by decide) (fun c_89 => ?_) (fun c_89 => ?_)
                · skip
                  have hg : ¬ (fr ≤ t ∧ t < to) := fun q9 => by
                    have q8 := (hsd _ hr13).mpr q9
                    rw [if_pos hrp] at q8
                    exact c_89 q8
                  refine pw_iconst (x := 0) h d_X8_isPart_102 (by decide) ?_
                  refine pw_iast h d_X8_isPart_103 (by assumption) (by assumption) ?_
                  obtain ⟨v5_104, e5_104⟩ : ∃ z : Int32, z = u + (1) := ⟨_, rfl⟩
                  refine pw_iinc (lv' := [(5, .int v5_104), (0, .ref m), (1, .int s), (2, .int pc), (3, .int lf), (4, .int y)]) v5_104 h d_X8_isPart_104 5 rfl e5_104.symm _ hml (by decide) rfl ?_
                  refine pw_goto 64 h d_X8_isPart_107 (by decide) ?_
                  refine PW.perm [1, 2, 3, 4, 5, 0] rfl ?_
                  refine ihr (t + 1) _ _ (by omega) (by omega) (k_up e5_104 eu) (fun b j q9 => by rw [u2_n1 q9]; exact f3 b j q9) (fun r hr => ?_)
                  by_cases e9 : r = t
                  · rw [e9, u2_s]; exact wc_out hg
                  · rw [u2_n2 e9]; exact g3 r (by omega)
                · skip
                  have hg : fr ≤ t ∧ t < to := (hsd _ hr13).mp (by rw [if_pos hrp]; exact c_89)
                  refine pw_aload_n h 0 d_X8_isPart_92 rfl ?_
                  refine pw_getR (j := (m + 5)) 8 h d_X8_isPart_93 fd_RX8_22 (by assumption) rfl (by assumption) ?_
                  refine pw_iload h 5 d_X8_isPart_96 rfl ?_
                  refine pw_iald h d_X8_isPart_98 (by assumption) (by assumption) ?_
                  refine pw_goto 103 h d_X8_isPart_99 (by decide) ?_
                  refine pw_iast h d_X8_isPart_103 (by assumption) (by assumption) ?_
                  obtain ⟨v5_104, e5_104⟩ : ∃ z : Int32, z = u + (1) := ⟨_, rfl⟩
                  refine pw_iinc (lv' := [(5, .int v5_104), (0, .ref m), (1, .int s), (2, .int pc), (3, .int lf), (4, .int y)]) v5_104 h d_X8_isPart_104 5 rfl e5_104.symm _ hml (by decide) rfl ?_
                  refine pw_goto 64 h d_X8_isPart_107 (by decide) ?_
                  refine PW.perm [1, 2, 3, 4, 5, 0] rfl ?_
                  refine ihr (t + 1) _ _ (by omega) (by omega) (k_up e5_104 eu) (fun b j q9 => by rw [u2_n1 q9]; exact f3 b j q9) (fun r hr => ?_)
                  by_cases e9 : r = t
                  · rw [e9, u2_s]; exact wc_in (by rw [f3 _ _ (by omega)]; exact hm1.2.2.2.1 t hr13) hg
                  · rw [u2_n2 e9]; exact g3 r (by omega)
        refine PW.perm [1, 2, 3, 4, 5, 0] rfl ?_
        exact cut_64 14 0 _ I1 (by omega) (Nat.zero_le _) e5_62 (fun _ _ _ => rfl) (fun r hr => absurd hr (Nat.not_lt_zero _))
      · skip
        have hkl : k < aN A := k_lt ev hc1.1 (by omega) (by omega) c_19
        have hxk : px_ix v 7 k := k_ix ev (by omega) (by decide)
        have hr13 := a.2.1.1 k hkl
        have hcq := hc1.2.1 k hkl
        refine pw_iload h 4 d_X8_isPart_22 rfl ?_
        refine pw_aload_n h 0 d_X8_isPart_24 rfl ?_
        refine pw_getR (j := (m + 20)) 8 h d_X8_isPart_25 fd_RX8_76 (by assumption) rfl (by assumption) ?_
        refine pw_iload h 5 d_X8_isPart_28 rfl ?_
        refine pw_iald h d_X8_isPart_30 (by assumption) (by assumption) ?_
        refine pw_iload_n h 2 d_X8_isPart_31 rfl ?_
        refine pw_icmp_ge 39 h d_X8_isPart_32 (by decide) (fun c_32 => ?_) (fun c_32 => ?_)
        · skip
          have hrp : ¬ aQ A k < p := by have q9 := k_ge (v := I1 (m + 20) k) hcq ep (by omega) (by omega) c_32; omega
          refine pw_iconst (x := 0) h d_X8_isPart_39 (by decide) ?_
          refine pw_iload_n h 3 d_X8_isPart_40 rfl ?_
          refine pw_icmp_ne 51 h d_X8_isPart_41 (by decide) (fun c_41 => ?_) (fun c_41 => ?_)
          · skip
            have hg : ¬ (fr ≤ aQ A k ∧ aQ A k < to) := fun q9 => by
              have q8 := (hsd _ hr13).mpr q9
              rw [if_neg hrp] at q8
              exact c_41 q8
            refine pw_iconst (x := 0) h d_X8_isPart_51 (by decide) ?_
            refine pw_ior h d_X8_isPart_52 ?_
            refine pw_nmI (fun v4_53 e4_53 => ?_)
            refine pw_istore (lv' := [(4, .int v4_53), (0, .ref m), (1, .int s), (2, .int pc), (3, .int lf), (5, .int v)]) h d_X8_isPart_53 _ hml (by decide) rfl ?_
            obtain ⟨v5_55, e5_55⟩ : ∃ z : Int32, z = v + (1) := ⟨_, rfl⟩
            refine pw_iinc (lv' := [(5, .int v5_55), (4, .int v4_53), (0, .ref m), (1, .int s), (2, .int pc), (3, .int lf)]) v5_55 h d_X8_isPart_55 5 rfl e5_55.symm _ hml (by decide) rfl ?_
            refine pw_goto 13 h d_X8_isPart_58 (by decide) ?_
            refine PW.perm [2, 3, 4, 5, 1, 0] rfl ?_
            exact ih (k + 1) _ _ (by omega) (by omega) (k_up e5_55 ev) (by rw [e4_53]; exact bit_f ey (fun q9 => hg (of_decide_eq_true q9)))
          · skip
            have hg : fr ≤ aQ A k ∧ aQ A k < to := (hsd _ hr13).mp (by rw [if_neg hrp]; exact c_41)
            refine pw_iconst (x := 1) h d_X8_isPart_44 (by decide) ?_
            refine pw_iload h 5 d_X8_isPart_45 rfl ?_
            refine pw_ishl h d_X8_isPart_47 ?_
            refine pw_goto 52 h d_X8_isPart_48 (by decide) ?_
            refine pw_ior h d_X8_isPart_52 ?_
            refine pw_nmI (fun v4_53 e4_53 => ?_)
            refine pw_istore (lv' := [(4, .int v4_53), (0, .ref m), (1, .int s), (2, .int pc), (3, .int lf), (5, .int v)]) h d_X8_isPart_53 _ hml (by decide) rfl ?_
            obtain ⟨v5_55, e5_55⟩ : ∃ z : Int32, z = v + (1) := ⟨_, rfl⟩
            refine pw_iinc (lv' := [(5, .int v5_55), (4, .int v4_53), (0, .ref m), (1, .int s), (2, .int pc), (3, .int lf)]) v5_55 h d_X8_isPart_55 5 rfl e5_55.symm _ hml (by decide) rfl ?_
            refine pw_goto 13 h d_X8_isPart_58 (by decide) ?_
            refine PW.perm [2, 3, 4, 5, 1, 0] rfl ?_
            exact ih (k + 1) _ _ (by omega) (by omega) (k_up e5_55 ev) (by rw [e4_53]; exact bit_t ey ev (decide_eq_true hg))
        · skip
          have hrp : aQ A k < p := k_lt (v := I1 (m + 20) k) hcq ep (by omega) (by omega) c_32
          refine pw_iconst (x := 1) h d_X8_isPart_35 (by decide) ?_
          refine pw_goto 40 h d_X8_isPart_36 (by decide) ?_
          refine pw_iload_n h 3 d_X8_isPart_40 rfl ?_
          refine pw_icmp_ne 51 h d_X8_isPart_41 (by decide) (fun c_41 => ?_) (fun c_41 => ?_)
          · skip
            have hg : ¬ (fr ≤ aQ A k ∧ aQ A k < to) := fun q9 => by
              have q8 := (hsd _ hr13).mpr q9
              rw [if_pos hrp] at q8
              exact c_41 q8
            refine pw_iconst (x := 0) h d_X8_isPart_51 (by decide) ?_
            refine pw_ior h d_X8_isPart_52 ?_
            refine pw_nmI (fun v4_53 e4_53 => ?_)
            refine pw_istore (lv' := [(4, .int v4_53), (0, .ref m), (1, .int s), (2, .int pc), (3, .int lf), (5, .int v)]) h d_X8_isPart_53 _ hml (by decide) rfl ?_
            obtain ⟨v5_55, e5_55⟩ : ∃ z : Int32, z = v + (1) := ⟨_, rfl⟩
            refine pw_iinc (lv' := [(5, .int v5_55), (4, .int v4_53), (0, .ref m), (1, .int s), (2, .int pc), (3, .int lf)]) v5_55 h d_X8_isPart_55 5 rfl e5_55.symm _ hml (by decide) rfl ?_
            refine pw_goto 13 h d_X8_isPart_58 (by decide) ?_
            refine PW.perm [2, 3, 4, 5, 1, 0] rfl ?_
            exact ih (k + 1) _ _ (by omega) (by omega) (k_up e5_55 ev) (by rw [e4_53]; exact bit_f ey (fun q9 => hg (of_decide_eq_true q9)))
          · skip
            have hg : fr ≤ aQ A k ∧ aQ A k < to := (hsd _ hr13).mp (by rw [if_pos hrp]; exact c_41)
            refine pw_iconst (x := 1) h d_X8_isPart_44 (by decide) ?_
            refine pw_iload h 5 d_X8_isPart_45 rfl ?_
            refine pw_ishl h d_X8_isPart_47 ?_
            refine pw_goto 52 h d_X8_isPart_48 (by decide) ?_
            refine pw_ior h d_X8_isPart_52 ?_
            refine pw_nmI (fun v4_53 e4_53 => ?_)
            refine pw_istore (lv' := [(4, .int v4_53), (0, .ref m), (1, .int s), (2, .int pc), (3, .int lf), (5, .int v)]) h d_X8_isPart_53 _ hml (by decide) rfl ?_
            obtain ⟨v5_55, e5_55⟩ : ∃ z : Int32, z = v + (1) := ⟨_, rfl⟩
            refine pw_iinc (lv' := [(5, .int v5_55), (4, .int v4_53), (0, .ref m), (1, .int s), (2, .int pc), (3, .int lf)]) v5_55 h d_X8_isPart_55 5 rfl e5_55.symm _ hml (by decide) rfl ?_
            refine pw_goto 13 h d_X8_isPart_58 (by decide) ?_
            refine PW.perm [2, 3, 4, 5, 1, 0] rfl ?_
            exact ih (k + 1) _ _ (by omega) (by omega) (k_up e5_55 ev) (by rw [e4_53]; exact bit_t ey ev (decide_eq_true hg))
  refine PW.perm [2, 3, 4, 5, 1, 0] rfl ?_
  exact cut_13 (aN A + 1) 0 _ _ (by omega) (Nat.zero_le _) e5_11 e4_8

set_option maxHeartbeats 4000000 in
set_option maxRecDepth 100000 in
theorem c_X8_table {sh : Sh} {I : IM} {L : LM} {R : RM} {m : Nat} {A : LA} (hM : ModF sh R m) (hm : MSm I m A) (a : okA A) (a1 b w : Int32) : PMet M_X8_table [.ref m, .int a1, .int b, .int w] sh I L R (obM sh I L R m (fun ret => ifA (isBn (aN A) a1 && isBn (aN A) b && isW w 0 1) (ifA (decide (2 ≤ aN A)) (ret = some (.long (ansL (aldA A (oneH b.toNatClampNeg) (wCut A 0 0) a1.toNatClampNeg) w))) (ret = refL (-2))) (ret = refL (-1)))) := by
  refine PMet.of mf_X8_table (Nat.le_of_ble_eq_true rfl) ?_
  intro X h hr hml
  have hml : (xc X).maxLocals = 5 := hml
  have h : PXok X RX8 cX8_table 6 0 0 := h
  have hr : PXr X (some .long) "table" _ 0 0 := hr
  have hM0 := hM
  obtain ⟨f0, f1, f2, f3, f4, f5, f6, f7, f8, f9, f10, f11, f12, f13, f14, f15, f16, f17, f18, f19, f20, f21, f22, f23, f24, f25, f26, f27, g1, g2, g3, g4, g5, g6, g7, g8, g9, g10, g11, g12, g13, g14, g15, g16, g17, g18, g19, g20, g21, g22, g23, g24, g25, g26, g27⟩ := hM
  have hn := hm.1
  have h6 := a.1
  show PW X 0 [(0, .ref m), (1, .int a1), (2, .int b), (3, .int w)] [] sh I L R 0 0
  refine pw_aload_n h 0 d_X8_table_0 rfl ?_
  refine pw_iload_n h 1 d_X8_table_1 rfl ?_
  refine pw_callV (As := [.int _]) h d_X8_table_2 mf_X8_isBearing mi_X8_isBearing ml_RX8_128 ⟨by decide, by decide, by decide⟩ (by assumption) rfl rfl (Nat.le_of_ble_eq_true rfl) trivial (c_X8_isBearing hM0 hn h6) ?_
  refine PKk.ret ?_
  refine pw_if_eq 26 h d_X8_table_5 (by decide) (fun c_5 => ?_) (fun c_5 => ?_)
  · skip
    rw [bI_1] at c_5
    refine pw_ldc2 h d_X8_table_26 ck_RX8_290 ?_
    refine pw_lret h hr d_X8_table_29 (by decide) (by decide) ?_
    refine ⟨rfl, rfl, frMI_0, frML_0, ifA_f ?_ rfl⟩
    first | (simp only [isBn, c_5, Bool.false_and]; done) | (simp only [isBn, c_5, c_13, Bool.false_and, Bool.and_false]; done) | (simp only [isBn, c_5, c_13, c_23, Bool.and_false]; done)
  · skip
    rw [bI_1, Bool.not_eq_false] at c_5
    refine pw_aload_n h 0 d_X8_table_8 rfl ?_
    refine pw_iload_n h 2 d_X8_table_9 rfl ?_
    refine pw_callV (As := [.int _]) h d_X8_table_10 mf_X8_isBearing mi_X8_isBearing ml_RX8_128 ⟨by decide, by decide, by decide⟩ (by assumption) rfl rfl (Nat.le_of_ble_eq_true rfl) trivial (c_X8_isBearing hM0 hn h6) ?_
    refine PKk.ret ?_
    refine pw_if_eq 26 h d_X8_table_13 (by decide) (fun c_13 => ?_) (fun c_13 => ?_)
    · skip
      rw [bI_1] at c_13
      refine pw_ldc2 h d_X8_table_26 ck_RX8_290 ?_
      refine pw_lret h hr d_X8_table_29 (by decide) (by decide) ?_
      refine ⟨rfl, rfl, frMI_0, frML_0, ifA_f ?_ rfl⟩
      first | (simp only [isBn, c_5, Bool.false_and]; done) | (simp only [isBn, c_5, c_13, Bool.false_and, Bool.and_false]; done) | (simp only [isBn, c_5, c_13, c_23, Bool.and_false]; done)
    · skip
      rw [bI_1, Bool.not_eq_false] at c_13
      refine pw_iload_n h 3 d_X8_table_16 rfl ?_
      refine pw_i2l h d_X8_table_17 ?_
      refine pw_lconst (x := 0) h d_X8_table_18 (by decide) ?_
      refine pw_lconst (x := 1) h d_X8_table_19 (by decide) ?_
      refine pw_callS (As := [.long _, .long _, .long _]) h d_X8_table_20 mf_X8_in st_yX8_in ml_RX8_105 ⟨by decide, by decide, by decide⟩ rfl rfl (Nat.le_of_ble_eq_true rfl) (c_X8_inW (a := 0) (b := 1) rfl rfl) ?_
      refine PKk.ret ?_
      refine pw_if_ne 30 h d_X8_table_23 (by decide) (fun c_23 => ?_) (fun c_23 => ?_)
      · skip
        rw [bI_1, Bool.not_eq_false] at c_23
        have hax := isBn_ix (N := 7) c_5 (by omega)
        have hal := px_ix_lt (isBn_ix (n := aN A) (N := aN A) c_5 (Nat.le_refl _))
        have hbl := isBn_ix (n := aN A) (N := aN A) c_13 (Nat.le_refl _)
        have eb := px_ix_eq hbl
        have hb6 := px_ix_lt hbl
        refine pw_aload_n h 0 d_X8_table_30 rfl ?_
        refine pw_getI 8 h d_X8_table_31 fd_RX8_109 (by assumption) rfl ?_
        refine pw_iconst (x := 2) h d_X8_table_34 (by decide) ?_
        refine pw_icmp_ge 42 h d_X8_table_35 (by decide) (fun c_35 => ?_) (fun c_35 => ?_)
        · skip
          have h2n : 2 ≤ aN A := k_ge hn (n := 2) rfl (by omega) (by decide) c_35
          have hB := all_ok (A := A) a (hh := (oneH b.toNatClampNeg)) (H := 1) one_in (by grind) (by grind) 0 0 h2n
          refine pw_aload_n h 0 d_X8_table_42 rfl ?_
          refine pw_iconst (x := 0) h d_X8_table_43 (by decide) ?_
          refine pw_iconst (x := (-1)) h d_X8_table_44 (by decide) ?_
          refine pw_iconst (x := 0) h d_X8_table_45 (by decide) ?_
          refine pw_callV (As := [.int _, .int _, .int _]) h d_X8_table_46 mf_X8_stands mi_X8_stands ml_RX8_292 ⟨by decide, by decide, by decide⟩ (by assumption) rfl rfl (Nat.le_of_ble_eq_true rfl) trivial (c_X8_stands hM0 hm a (st := 0) (by decide) rfl (std_A a _ _ (-4)) (by decide)) ?_
          intro ret1 sh1 I1 L1 R1_ hp1
          obtain ⟨e0, e1, eR, eL, fs1, hc1, hj1⟩ := hp1
          subst e0
          have e1 := e1.symm
          have eR := eR.symm
          have eL := eL.symm
          subst e1
          subst eR
          subst eL
          refine ⟨rfl, ?_⟩
          have fM1 : frMI m I I1 := frMI_S fs1
          have hm1 := MSm_MI hm fM1
          refine pw_aload_n h 0 d_X8_table_49 rfl ?_
          refine pw_iconst (x := 1) h d_X8_table_50 (by decide) ?_
          refine pw_aload_n h 0 d_X8_table_51 rfl ?_
          refine pw_getI 8 h d_X8_table_52 fd_RX8_109 (by assumption) rfl ?_
          refine pw_ishl h d_X8_table_55 ?_
          refine pw_iconst (x := 1) h d_X8_table_56 (by decide) ?_
          refine pw_isub h d_X8_table_57 ?_
          refine pw_callV (As := [.int _]) h d_X8_table_58 mf_X8_chooses mi_X8_chooses ml_RX8_270 ⟨by decide, by decide, by decide⟩ (by assumption) rfl rfl (Nat.le_of_ble_eq_true rfl) trivial (c_X8_chooses hM0 hc1.1 (by omega) _) ?_
          intro ret2 sh2 I2 L2 R2_ hp2
          obtain ⟨e0, e1, eI, eL, eR⟩ := hp2
          subst e0
          have e1 := e1.symm
          have eR := eR.symm
          have eL := eL.symm
          subst e1
          subst eR
          subst eL
          refine ⟨rfl, ?_⟩
          have hS2 : SolM I2 m (aN A - 2) (lyN allS (aQ A) (aN A)) (lyQ allS (hgt A 0) (aN A)) (wgt A) (stf A) := by rw [eI]; exact ch_all hc1 (all_code hm1.1 (by omega)) h2n
          have fM2 : frMI m I I2 := frMI_t fM1 (by rw [eI]; exact frMI_C frCh_ch)
          have hm2 := MSm_MI hm fM2
          clear eI
          refine pw_iconst (x := 0) h d_X8_table_61 (by decide) ?_
          refine pw_nmI (fun v4_62 e4_62 => ?_)
          refine pw_istore (lv' := [(4, .int v4_62), (0, .ref m), (1, .int a1), (2, .int b), (3, .int w)]) h d_X8_table_62 _ hml (by decide) rfl ?_
          have cut_64 : ∀ (N t : Nat) (u : Int32) (I3 : IM), 13 < t + N → t ≤ 13 → u = nI t → (∀ a j, a ≠ m + 13 → I3 a j = I2 a j) → (∀ r, r < t → I3 (m + 13) r = 0) → PW X 64 [(0, .ref m), (1, .int a1), (2, .int b), (3, .int w), (4, .int u)] [] sh I3 L R 0 0 := by
            intro N
            induction N with
            | zero => intros; omega
            | succ N ih =>
              intro t u I3 hN ht eu f3 g3
              refine pw_iload h 4 d_X8_table_64 rfl ?_
              refine pw_bipush (x := 13) h d_X8_table_66 (by decide) ?_
              refine pw_icmp_ge 85 h d_X8_table_68 (by decide) (fun c_68 => ?_) (fun c_68 => ?_)
              · skip
                have hge := k_ge eu (n := 13) rfl (by omega) (by omega) c_68
                have e9 : t = 13 := by omega
                subst e9
                refine pw_iconst (x := 0) h d_X8_table_85 (by decide) ?_
                refine pw_nmI (fun v4_86 e4_86 => ?_)
                refine pw_istore (lv' := [(4, .int v4_86), (0, .ref m), (1, .int a1), (2, .int b), (3, .int w)]) h d_X8_table_86 _ hml (by decide) rfl ?_
                have cut_88 : ∀ (N k : Nat) (x : Int32) (I4 : IM), aN A < k + N → k ≤ aN A → x = nI k → (∀ a j, a ≠ m + 13 → a ≠ m + 12 → I4 a j = I2 a j) → (∀ r, r < 13 → I4 (m + 13) r = 0) → (∀ i, i < k → I4 (m + 12) i = if i = b.toNatClampNeg then 1 else 0) → PW X 88 [(0, .ref m), (1, .int a1), (2, .int b), (3, .int w), (4, .int x)] [] sh I4 L R 0 0 := by
                  intro N
                  induction N with
                  | zero => intros; omega
                  | succ N ihk =>
                    intro k x I4 hN hk ek f4 g4 h4
                    have hn4 : I4 m 0 = nI (aN A) := by rw [f4 m 0 (by omega) (by omega)]; exact hm2.1
                    refine pw_iload h 4 d_X8_table_88 rfl ?_
                    refine pw_aload_n h 0 d_X8_table_90 rfl ?_
                    refine pw_getI 8 h d_X8_table_91 fd_RX8_109 (by assumption) rfl ?_
                    refine pw_icmp_ge 121 h d_X8_table_94 (by decide) (fun c_94 => ?_) (fun c_94 => ?_)
                    · skip
                      have hge : aN A ≤ k := k_ge ek hn4 (by omega) (by omega) c_94
                      have e9 : k = aN A := by omega
                      subst e9
                      have hS4 : SolM I4 m (aN A - 2) (lyN allS (aQ A) (aN A)) (lyQ allS (oneH b.toNatClampNeg) (aN A)) (wCut A 0 0) (stf A) := sol_th hS2 f4 (fun r hr => wc_00 (g4 r hr)) (fun i hi => by rw [lyQ_all (show i < aN A by omega)]; exact one_ok (h4 i (by omega)))
                      have fM4 := frMI_1213 fM2 f4
                      refine pw_aload_n h 0 d_X8_table_121 rfl ?_
                      refine pw_callV (As := []) h d_X8_table_122 mf_X8_goes mi_X8_goes ml_RX8_274 ⟨by decide, by decide, by decide⟩ (by assumption) rfl rfl (Nat.le_of_ble_eq_true rfl) trivial (c_X8_goes hM0 hB hS4) ?_
                      intro ret5 sh5 I5 L5 R5_ hp5
                      obtain ⟨e0, e1, eR, eI, hgo⟩ := hp5
                      subst e0
                      have e1 := e1.symm
                      have eR := eR.symm
                      have eI := eI.symm
                      subst e1
                      subst eR
                      subst eI
                      refine ⟨rfl, ?_⟩
                      have fL5 : frML m L L5 := frML_G (frG_go hgo.1)
                      have hR := hgo.2.2.2 a1.toNatClampNeg (by omega)
                      have hk := mk_lo (L := L5) hB hS4 (show a1.toNatClampNeg < aN A - 2 + 2 by omega) hR
                      refine pw_aload_n h 0 d_X8_table_125 rfl ?_
                      refine pw_aload_n h 0 d_X8_table_126 rfl ?_
                      refine pw_getR (j := (m + 14)) 8 h d_X8_table_127 fd_RX8_57 (by assumption) rfl (by assumption) ?_
                      refine pw_iload_n h 1 d_X8_table_130 rfl ?_
                      refine pw_lald h d_X8_table_131 (by assumption) (by assumption) ?_
                      refine pw_aload_n h 0 d_X8_table_132 rfl ?_
                      refine pw_getR (j := (m + 15)) 8 h d_X8_table_133 fd_RX8_61 (by assumption) rfl (by assumption) ?_
                      refine pw_iload_n h 1 d_X8_table_136 rfl ?_
                      refine pw_lald h d_X8_table_137 (by assumption) (by assumption) ?_
                      refine pw_callV (As := [.long _, .long _]) h d_X8_table_138 mf_X8_makes mi_X8_makes ml_RX8_205 ⟨by decide, by decide, by decide⟩ (by assumption) rfl rfl (Nat.le_of_ble_eq_true rfl) trivial (c_X8_makes hM0 _ _ hk.1) ?_
                      intro ret6 sh6 I6 L6 R6_ hp6
                      obtain ⟨e0, e1, eI, eL, eR⟩ := hp6
                      subst e0
                      have e1 := e1.symm
                      have eR := eR.symm
                      have eI := eI.symm
                      subst e1
                      subst eR
                      subst eI
                      refine ⟨rfl, ?_⟩
                      have fL6 : frML m L L6 := frML_t fL5 (by rw [eL]; exact frML_F mkL_fr)
                      have r6 : RF (L6 m 17) (L6 m 18) (aldA A (oneH b.toNatClampNeg) (wCut A 0 0) a1.toNatClampNeg) := by rw [eL]; exact hk.2
                      clear eL
                      refine pw_aload_n h 0 d_X8_table_141 rfl ?_
                      refine pw_iload_n h 3 d_X8_table_142 rfl ?_
                      refine pw_callV (As := [.int _]) h d_X8_table_143 mf_X8_part mi_X8_part ml_RX8_305 ⟨by decide, by decide, by decide⟩ (by assumption) rfl rfl (Nat.le_of_ble_eq_true rfl) trivial (c_X8_part hM0 _) ?_
                      refine PKk.ret ?_
                      refine pw_lret h hr d_X8_table_146 (by decide) (by decide) ?_
                      exact ⟨rfl, rfl, fM4, fL6, ifA_t (by simp only [isBn, c_5, c_13, c_23, Bool.and_self]) (ifA_t (decide_eq_true h2n) (congrArg (fun z => some (Value.long z)) (RF_ans r6 w)))⟩
                    · skip
                      have hkl : k < aN A := k_lt ek hn4 (by omega) (by omega) c_94
                      have hxk : px_ix x 7 k := k_ix ek (by omega) (by decide)
                      refine pw_aload_n h 0 d_X8_table_97 rfl ?_
                      refine pw_getR (j := (m + 12)) 8 h d_X8_table_98 fd_RX8_51 (by assumption) rfl (by assumption) ?_
                      refine pw_iload h 4 d_X8_table_101 rfl ?_
                      refine pw_iload h 4 d_X8_table_103 rfl ?_
                      refine pw_iload_n h 2 d_X8_table_105 rfl ?_
                      refine pw_icmp_ne 113 h d_X8_table_106 (by decide) (fun c_106 => ?_) (fun c_106 => ?_)
                      · skip
                        have hkb : ¬ k = b.toNatClampNeg := fun q9 => c_106 (by rw [ek, eb, q9])
                        refine pw_iconst (x := 0) h d_X8_table_113 (by decide) ?_
                        refine pw_iast h d_X8_table_114 (by assumption) (by assumption) ?_
                        obtain ⟨v4_115, e4_115⟩ : ∃ z : Int32, z = x + (1) := ⟨_, rfl⟩
                        refine pw_iinc (lv' := [(4, .int v4_115), (0, .ref m), (1, .int a1), (2, .int b), (3, .int w)]) v4_115 h d_X8_table_115 4 rfl e4_115.symm _ hml (by decide) rfl ?_
                        refine pw_goto 88 h d_X8_table_118 (by decide) ?_
                        refine PW.perm [1, 2, 3, 4, 0] rfl ?_
                        refine ihk (k + 1) _ _ (by omega) (by omega) (k_up e4_115 ek) (fun b j q8 q9 => by rw [u2_n1 q9]; exact f4 b j q8 q9) (fun r hr => by rw [u2_n1 (by omega)]; exact g4 r hr) (fun i hi => ?_)
                        by_cases e9 : i = k
                        · rw [e9, u2_s, if_neg hkb]
                        · rw [u2_n2 e9]; exact h4 i (by omega)
                      · skip
                        have hkb : k = b.toNatClampNeg := (nI_eq (by omega) (by omega)).mp (ek.symm.trans (c_106.trans eb))
                        refine pw_iconst (x := 1) h d_X8_table_109 (by decide) ?_
                        refine pw_goto 114 h d_X8_table_110 (by decide) ?_
                        refine pw_iast h d_X8_table_114 (by assumption) (by assumption) ?_
                        obtain ⟨v4_115, e4_115⟩ : ∃ z : Int32, z = x + (1) := ⟨_, rfl⟩
                        refine pw_iinc (lv' := [(4, .int v4_115), (0, .ref m), (1, .int a1), (2, .int b), (3, .int w)]) v4_115 h d_X8_table_115 4 rfl e4_115.symm _ hml (by decide) rfl ?_
                        refine pw_goto 88 h d_X8_table_118 (by decide) ?_
                        refine PW.perm [1, 2, 3, 4, 0] rfl ?_
                        refine ihk (k + 1) _ _ (by omega) (by omega) (k_up e4_115 ek) (fun b j q8 q9 => by rw [u2_n1 q9]; exact f4 b j q8 q9) (fun r hr => by rw [u2_n1 (by omega)]; exact g4 r hr) (fun i hi => ?_)
                        by_cases e9 : i = k
                        · rw [e9, u2_s, if_pos hkb]
                        · rw [u2_n2 e9]; exact h4 i (by omega)
                refine PW.perm [1, 2, 3, 4, 0] rfl ?_
                exact cut_88 (aN A + 1) 0 _ _ (by omega) (Nat.zero_le _) e4_86 (fun a j q8 q9 => f3 a j q8) g3 (fun r hr => absurd hr (Nat.not_lt_zero _))
              · skip
                have hr13 : t < 13 := k_lt eu (n := 13) rfl (by omega) (by omega) c_68
                have hxt : px_ix u 13 t := k_ix eu hr13 (by decide)
                refine pw_aload_n h 0 d_X8_table_71 rfl ?_
                refine pw_getR (j := (m + 13)) 8 h d_X8_table_72 fd_RX8_54 (by assumption) rfl (by assumption) ?_
                refine pw_iload h 4 d_X8_table_75 rfl ?_
                refine pw_iconst (x := 0) h d_X8_table_77 (by decide) ?_
                refine pw_iast h d_X8_table_78 (by assumption) (by assumption) ?_
                obtain ⟨v4_79, e4_79⟩ : ∃ z : Int32, z = u + (1) := ⟨_, rfl⟩
                refine pw_iinc (lv' := [(4, .int v4_79), (0, .ref m), (1, .int a1), (2, .int b), (3, .int w)]) v4_79 h d_X8_table_79 4 rfl e4_79.symm _ hml (by decide) rfl ?_
                refine pw_goto 64 h d_X8_table_82 (by decide) ?_
                refine PW.perm [1, 2, 3, 4, 0] rfl ?_
                refine ih (t + 1) _ _ (by omega) (by omega) (k_up e4_79 eu) (fun b j q9 => by rw [u2_n1 q9]; exact f3 b j q9) (fun r hr => ?_)
                by_cases e9 : r = t
                · rw [e9, u2_s]
                · rw [u2_n2 e9]; exact g3 r (by omega)
          refine PW.perm [1, 2, 3, 4, 0] rfl ?_
          exact cut_64 14 0 _ I2 (by omega) (Nat.zero_le _) e4_62 (fun _ _ _ => rfl) (fun r hr => absurd hr (Nat.not_lt_zero _))
        · skip
          have h2n : aN A < 2 := k_lt hn (n := 2) rfl (by omega) (by decide) c_35
          refine pw_ldc2 h d_X8_table_38 ck_RX8_299 ?_
          refine pw_lret h hr d_X8_table_41 (by decide) (by decide) ?_
          exact ⟨rfl, rfl, frMI_0, frML_0, ifA_t (by simp only [isBn, c_5, c_13, c_23, Bool.and_self]) (ifA_f (decide_eq_false (by omega)) rfl)⟩
      · skip
        rw [bI_1] at c_23
        refine pw_ldc2 h d_X8_table_26 ck_RX8_290 ?_
        refine pw_lret h hr d_X8_table_29 (by decide) (by decide) ?_
        refine ⟨rfl, rfl, frMI_0, frML_0, ifA_f ?_ rfl⟩
        first | (simp only [isBn, c_5, Bool.false_and]; done) | (simp only [isBn, c_5, c_13, Bool.false_and, Bool.and_false]; done) | (simp only [isBn, c_5, c_13, c_23, Bool.and_false]; done)
