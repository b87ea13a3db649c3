set_option maxHeartbeats 4000000 in
set_option maxRecDepth 100000 in
theorem c_X8_stands {sh : Sh} {I : IM} {L : LM} {R : RM} {m st n : Nat} {A : LA} {q : Nat → Nat} {hh : Nat → Rat} {s jp jh jn : Int32} (hM : ModF sh R m) (hm : MSm I m A) (a : okA A) (hst : st < 4) (es : s = nI st) (hq : stdQ A st jp jh n q hh jn) (hjh : -1000 ≤ jh.toInt ∧ jh.toInt ≤ 1000) : PMet M_X8_stands [.ref m, .int s, .int jp, .int jh] sh I L R (stdP sh I L R m n A q hh jp jn) := by
  refine PMet.of mf_X8_stands (Nat.le_of_ble_eq_true rfl) ?_
  intro X h hr hml
  have hml : (xc X).maxLocals = 6 := hml
  have h : PXok X RX8 cX8_stands 2 0 0 := h
  have hr : PXr X none "stands" _ 0 0 := hr
  have hM0 := hM
  obtain ⟨f0, f1, f2, f3, f4, f5, f6, f7, f8, f9, f10, f11, f12, f13, f14, f15, f16, f17, f18, f19, f20, f21, f22, f23, f24, f25, f26, f27, g1, g2, g3, g4, g5, g6, g7, g8, g9, g10, g11, g12, g13, g14, g15, g16, g17, g18, g19, g20, g21, g22, g23, g24, g25, g26, g27⟩ := hM
  have h6 := a.1
  have h7 := hq.2.1
  have hxs : px_ix s 4 st := k_ix es hst (by decide)
  show PW X 0 [(0, .ref m), (1, .int s), (2, .int jp), (3, .int jh)] [] sh I L R 0 0
  refine pw_aload_n h 0 d_X8_stands_0 rfl ?_
  refine pw_iconst (x := 0) h d_X8_stands_1 (by decide) ?_
  refine pw_putI 8 h d_X8_stands_2 fd_RX8_264 (by assumption) rfl rfl rfl rfl ?_
  refine pw_aload_n h 0 d_X8_stands_5 rfl ?_
  refine pw_bipush (x := (-4)) h d_X8_stands_6 (by decide) ?_
  refine pw_putI 8 h d_X8_stands_8 fd_RX8_267 (by assumption) rfl rfl rfl rfl ?_
  refine pw_iconst (x := 0) h d_X8_stands_11 (by decide) ?_
  refine pw_nmI (fun v4_12 e4_12 => ?_)
  refine pw_istore (lv' := [(4, .int v4_12), (0, .ref m), (1, .int s), (2, .int jp), (3, .int jh)]) h d_X8_stands_12 _ hml (by decide) rfl ?_
  have cut_14 : ∀ (N p : Nat) (v : Int32) (I2 : IM), 13 < p + N → p ≤ 13 → v = nI p → stI I I2 m A jp n q hh jn p → PW X 14 [(0, .ref m), (1, .int s), (2, .int jp), (3, .int jh), (4, .int v)] [] sh I2 L R 0 0 := by
    intro N
    induction N with
    | zero => intros; omega
    | succ N ih =>
      intro p v I2 hN hp1 ev hs
      refine pw_iload h 4 d_X8_stands_14 rfl ?_
      refine pw_bipush (x := 13) h d_X8_stands_16 (by decide) ?_
      refine pw_icmp_ge 147 h d_X8_stands_18 (by decide) (fun c_18 => ?_) (fun c_18 => ?_)
      · skip
        have hge := k_ge ev (n := 13) rfl (by omega) (by omega) c_18
        have e9 : p = 13 := by omega
        subst e9
        refine pw_vret h hr d_X8_stands_147 (by decide) (by decide) ?_
        have q9 := stI_end hq hm hs
        exact ⟨rfl, rfl, rfl, rfl, q9.1, q9.2.1, q9.2.2⟩
      · skip
        have hp : p < 13 := k_lt ev (n := 13) rfl (by omega) (by omega) c_18
        have hxp : px_ix v 13 p := k_ix ev hp (by decide)
        refine pw_aload_n h 0 d_X8_stands_21 rfl ?_
        refine pw_getR (j := (m + 13)) 8 h d_X8_stands_22 fd_RX8_54 (by assumption) rfl (by assumption) ?_
        refine pw_iload h 4 d_X8_stands_25 rfl ?_
        refine pw_aload_n h 0 d_X8_stands_27 rfl ?_
        refine pw_getR (j := (m + 5)) 8 h d_X8_stands_28 fd_RX8_22 (by assumption) rfl (by assumption) ?_
        refine pw_iload h 4 d_X8_stands_31 rfl ?_
        refine pw_iald h d_X8_stands_33 (by assumption) (by assumption) ?_
        refine pw_iast h d_X8_stands_34 (by assumption) (by assumption) ?_
        obtain ⟨I3, eI3⟩ : ∃ I3, I3 = u2 I2 (m + 13) p (I2 (m + 5) p) := ⟨_, rfl⟩
        refine pw_mem (I' := I3) eI3.symm rfl rfl ?_
        have f3 : frSt m I I3 := by rw [eI3]; exact frSt_u hs.1 (by omega)
        have hm3 := MSm_St hm f3
        refine pw_aload_n h 0 d_X8_stands_35 rfl ?_
        refine pw_iload h 4 d_X8_stands_36 rfl ?_
        refine pw_callV (As := [.int _]) h d_X8_stands_38 mf_X8_bearingAt mi_X8_bearingAt ml_RX8_120 ⟨by decide, by decide, by decide⟩ (by assumption) rfl rfl (Nat.le_of_ble_eq_true rfl) trivial (c_X8_bearingAt hM0 hm3.1 h6 _) ?_
        refine PKk.ret ?_
        refine pw_nmI (fun v5_41 e5_41 => ?_)
        refine pw_istore (lv' := [(5, .int v5_41), (0, .ref m), (1, .int s), (2, .int jp), (3, .int jh), (4, .int v)]) h d_X8_stands_41 _ hml (by decide) rfl ?_
        have eb5 : v5_41 = sIdx (srch (I3 (m + 1)) (nI p) (aN A)) (-4) := by rw [e5_41, ev]
        refine pw_iload h 0 d_X8_stands_43 rfl ?_
        refine pw_if_ge 54 h d_X8_stands_45 (by decide) (fun c_45 => ?_) (fun c_45 => ?_)
        · skip
          obtain ⟨b, hb, eb, e5⟩ := ba_ge hm3 a hp eb5 c_45
          obtain ⟨k, hk, ek, ehk⟩ := (hq.2.2 p hp).1 b hb eb
          have hit : hitP A p := ⟨b, hb, eb⟩
          have ck := (cnt_hit hq.1 hk ek).1
          have hx5 : px_ix v5_41 6 b := k_ix e5 (by omega) (by decide)
          have c3 : I3 m 32 = nI k := by rw [eI3, u2_n1 (by omega), hs.2.1, ck]
          have hx7 : px_ix (I3 m 32) 7 k := k_ix c3 (by omega) (by decide)
          refine pw_aload_n h 1 d_X8_stands_54 rfl ?_
          refine pw_getR (j := (m + 20)) 8 h d_X8_stands_55 fd_RX8_76 (by assumption) rfl (by assumption) ?_
          refine pw_aload_n h 1 d_X8_stands_58 rfl ?_
          refine pw_getI 8 h d_X8_stands_59 fd_RX8_264 (by assumption) rfl ?_
          refine pw_iload h 5 d_X8_stands_62 rfl ?_
          refine pw_iast h d_X8_stands_64 (by assumption) (by assumption) ?_
          obtain ⟨I4, eI4⟩ : ∃ I4, I4 = u2 I3 (m + 20) k v := ⟨_, rfl⟩
          refine pw_mem (I' := I4) eI4.symm rfl rfl ?_
          have c4 : I4 m 32 = nI k := by rw [eI4, u2_n1 (by omega)]; exact c3
          have hx74 : px_ix (I4 m 32) 7 k := k_ix c4 (by omega) (by decide)
          have f4 : frSt m I I4 := by rw [eI4]; exact frSt_u f3 (by omega)
          have hm4 := MSm_St hm f4
          refine pw_aload_n h 1 d_X8_stands_65 rfl ?_
          refine pw_getR (j := (m + 21)) 8 h d_X8_stands_66 fd_RX8_79 (by assumption) rfl (by assumption) ?_
          refine pw_aload_n h 1 d_X8_stands_69 rfl ?_
          refine pw_getI 8 h d_X8_stands_70 fd_RX8_264 (by assumption) rfl ?_
          refine pw_iload h 0 d_X8_stands_73 rfl ?_
          refine pw_if_lt 109 h d_X8_stands_75 (by decide) (fun c_75 => ?_) (fun c_75 => ?_)
          · exact absurd (by rw [e5]; exact nI_ge0 (by omega)) (Int32.not_le.mpr c_75)
          · skip
            refine pw_aload_n h 1 d_X8_stands_78 rfl ?_
            refine pw_getR (j := (m + 2)) 8 h d_X8_stands_79 fd_RX8_13 (by assumption) rfl (by assumption) ?_
            refine pw_iload h 0 d_X8_stands_82 rfl ?_
            refine pw_iald h d_X8_stands_84 (by assumption) (by assumption) ?_
            refine pw_aload_n h 1 d_X8_stands_85 rfl ?_
            refine pw_getR (j := (m + 22)) 8 h d_X8_stands_86 fd_RX8_82 (by assumption) rfl (by assumption) ?_
            refine pw_iload h 0 d_X8_stands_89 rfl ?_
            refine pw_iald h d_X8_stands_91 (by assumption) (by assumption) ?_
            refine pw_iadd h d_X8_stands_92 ?_
            refine pw_aload_n h 1 d_X8_stands_93 rfl ?_
            refine pw_getR (j := (m + 6)) 8 h d_X8_stands_94 fd_RX8_25 (by assumption) rfl (by assumption) ?_
            refine pw_bipush (x := 13) h d_X8_stands_97 (by decide) ?_
            refine pw_iload_n h 2 d_X8_stands_99 rfl ?_
            refine pw_imul h d_X8_stands_100 ?_
            refine pw_iload h 5 d_X8_stands_101 rfl ?_
            refine pw_iadd h d_X8_stands_103 ?_
            refine pw_iald h d_X8_stands_104 (by assumption) (px_ix_13 hxs hxp) ?_
            refine pw_iadd h d_X8_stands_105 ?_
            refine pw_goto 110 h d_X8_stands_106 (by decide) ?_
            refine pw_iast h d_X8_stands_110 (by assumption) (by assumption) ?_
            obtain ⟨I5, eI5⟩ : ∃ I5, I5 = u2 I4 (m + 21) k (I4 (m + 2) b + I4 (m + 22) b + I4 (m + 6) (13 * st + p)) := ⟨_, rfl⟩
            refine pw_mem (I' := I5) eI5.symm rfl rfl ?_
            have c5 : I5 m 32 = nI k := by rw [eI5, u2_n1 (by omega)]; exact c4
            have j5 : I5 m 36 = I2 m 36 := by rw [eI5, u2_n1 (by omega), eI4, u2_n1 (by omega), eI3, u2_n1 (by omega)]
            have hv : ((I4 (m + 2) b + I4 (m + 22) b + I4 (m + 6) (13 * st + p)).toInt : Rat) = hh k ∧ -1000 ≤ (I4 (m + 2) b + I4 (m + 22) b + I4 (m + 6) (13 * st + p)).toInt ∧ (I4 (m + 2) b + I4 (m + 22) b + I4 (m + 6) (13 * st + p)).toInt ≤ 1000 := by have q9 := ms_h hm4 a hst hb; rw [eb] at q9; rw [ehk]; exact q9
            refine pw_aload_n h 1 d_X8_stands_111 rfl ?_
            refine pw_iload h 0 d_X8_stands_112 rfl ?_
            refine pw_if_lt 124 h d_X8_stands_114 (by decide) (fun c_114 => ?_) (fun c_114 => ?_)
            · exact absurd (by rw [e5]; exact nI_ge0 (by omega)) (Int32.not_le.mpr c_114)
            · skip
              refine pw_aload_n h 1 d_X8_stands_117 rfl ?_
              refine pw_getI 8 h d_X8_stands_118 fd_RX8_267 (by assumption) rfl ?_
              refine pw_goto 128 h d_X8_stands_121 (by decide) ?_
              refine pw_putI 8 h d_X8_stands_128 fd_RX8_267 (by assumption) rfl rfl rfl rfl ?_
              refine pw_aload_n h 1 d_X8_stands_131 rfl ?_
              refine pw_dupR h d_X8_stands_132 ?_
              refine pw_getI 8 h d_X8_stands_133 fd_RX8_264 (by assumption) rfl ?_
              refine pw_iconst (x := 1) h d_X8_stands_136 (by decide) ?_
              refine pw_iadd h d_X8_stands_137 ?_
              refine pw_putI 8 h d_X8_stands_138 fd_RX8_264 (by assumption) rfl rfl rfl rfl ?_
              obtain ⟨v4_141, e4_141⟩ : ∃ z : Int32, z = v + (1) := ⟨_, rfl⟩
              refine pw_iinc (lv' := [(4, .int v4_141), (5, .int v5_41), (0, .ref m), (1, .int s), (2, .int jp), (3, .int jh)]) v4_141 h d_X8_stands_141 5 rfl e4_141.symm _ hml (by decide) rfl ?_
              refine pw_goto 14 h d_X8_stands_144 (by decide) ?_
              refine PW.perm [2, 3, 4, 5, 0] rfl ?_
              refine ih (p + 1) v4_141 _ (by omega) (by omega) (k_up e4_141 ev) ?_
              exact stI_y2 hq hp hs hk ek hv (Or.inl ⟨hit, j5⟩) eI3 eI4 eI5 ev (by rw [u2_n2 (by decide), c5, nI_1])
        · skip
          have hnh := ba_lt hm3 h6 eb5 c_45
          refine pw_iload h 5 d_X8_stands_48 rfl ?_
          refine pw_iload_n h 3 d_X8_stands_50 rfl ?_
          refine pw_icmp_ne 141 h d_X8_stands_51 (by decide) (fun c_51 => ?_) (fun c_51 => ?_)
          · skip
            have nejp : ¬ nI p = jp := fun q9 => c_51 (by rw [ev]; first | exact q9 | exact q9.symm)
            obtain ⟨v4_141, e4_141⟩ : ∃ z : Int32, z = v + (1) := ⟨_, rfl⟩
            refine pw_iinc (lv' := [(4, .int v4_141), (5, .int v5_41), (0, .ref m), (1, .int s), (2, .int jp), (3, .int jh)]) v4_141 h d_X8_stands_141 5 rfl e4_141.symm _ hml (by decide) rfl ?_
            refine pw_goto 14 h d_X8_stands_144 (by decide) ?_
            refine PW.perm [2, 3, 4, 5, 0] rfl ?_
            refine ih (p + 1) v4_141 _ (by omega) (by omega) (k_up e4_141 ev) ?_
            rw [eI3]
            exact stI_n hq hp hs hnh nejp (hs.1 _ _ (by omega) (by omega) (by omega) (by omega))
          · skip
            have ejp : nI p = jp := by rw [← ev]; first | exact c_51 | exact c_51.symm
            obtain ⟨k, hk, ek, ehk, ejn⟩ := (hq.2.2 p hp).2.1 hnh ejp
            have ck := (cnt_hit hq.1 hk ek).1
            have c3 : I3 m 32 = nI k := by rw [eI3, u2_n1 (by omega), hs.2.1, ck]
            have hx7 : px_ix (I3 m 32) 7 k := k_ix c3 (by omega) (by decide)
            refine pw_aload_n h 1 d_X8_stands_54 rfl ?_
            refine pw_getR (j := (m + 20)) 8 h d_X8_stands_55 fd_RX8_76 (by assumption) rfl (by assumption) ?_
            refine pw_aload_n h 1 d_X8_stands_58 rfl ?_
            refine pw_getI 8 h d_X8_stands_59 fd_RX8_264 (by assumption) rfl ?_
            refine pw_iload h 5 d_X8_stands_62 rfl ?_
            refine pw_iast h d_X8_stands_64 (by assumption) (by assumption) ?_
            obtain ⟨I4, eI4⟩ : ∃ I4, I4 = u2 I3 (m + 20) k v := ⟨_, rfl⟩
            refine pw_mem (I' := I4) eI4.symm rfl rfl ?_
            have c4 : I4 m 32 = nI k := by rw [eI4, u2_n1 (by omega)]; exact c3
            have hx74 : px_ix (I4 m 32) 7 k := k_ix c4 (by omega) (by decide)
            have f4 : frSt m I I4 := by rw [eI4]; exact frSt_u f3 (by omega)
            have hm4 := MSm_St hm f4
            refine pw_aload_n h 1 d_X8_stands_65 rfl ?_
            refine pw_getR (j := (m + 21)) 8 h d_X8_stands_66 fd_RX8_79 (by assumption) rfl (by assumption) ?_
            refine pw_aload_n h 1 d_X8_stands_69 rfl ?_
            refine pw_getI 8 h d_X8_stands_70 fd_RX8_264 (by assumption) rfl ?_
            refine pw_iload h 0 d_X8_stands_73 rfl ?_
            refine pw_if_lt 109 h d_X8_stands_75 (by decide) (fun c_75 => ?_) (fun c_75 => ?_)
            · skip
              refine pw_iload_n h 4 d_X8_stands_109 rfl ?_
              refine pw_iast h d_X8_stands_110 (by assumption) (by assumption) ?_
              obtain ⟨I5, eI5⟩ : ∃ I5, I5 = u2 I4 (m + 21) k jh := ⟨_, rfl⟩
              refine pw_mem (I' := I5) eI5.symm rfl rfl ?_
              have c5 : I5 m 32 = nI k := by rw [eI5, u2_n1 (by omega)]; exact c4
              have j5 : I5 m 36 = I2 m 36 := by rw [eI5, u2_n1 (by omega), eI4, u2_n1 (by omega), eI3, u2_n1 (by omega)]
              have hv : (jh.toInt : Rat) = hh k ∧ -1000 ≤ jh.toInt ∧ jh.toInt ≤ 1000 := ⟨ehk.symm, hjh⟩
              refine pw_aload_n h 1 d_X8_stands_111 rfl ?_
              refine pw_iload h 0 d_X8_stands_112 rfl ?_
              refine pw_if_lt 124 h d_X8_stands_114 (by decide) (fun c_114 => ?_) (fun c_114 => ?_)
              · skip
                refine pw_aload_n h 1 d_X8_stands_124 rfl ?_
                refine pw_getI 8 h d_X8_stands_125 fd_RX8_264 (by assumption) rfl ?_
                refine pw_putI 8 h d_X8_stands_128 fd_RX8_267 (by assumption) rfl rfl rfl rfl ?_
                refine pw_aload_n h 1 d_X8_stands_131 rfl ?_
                refine pw_dupR h d_X8_stands_132 ?_
                refine pw_getI 8 h d_X8_stands_133 fd_RX8_264 (by assumption) rfl ?_
                refine pw_iconst (x := 1) h d_X8_stands_136 (by decide) ?_
                refine pw_iadd h d_X8_stands_137 ?_
                refine pw_putI 8 h d_X8_stands_138 fd_RX8_264 (by assumption) rfl rfl rfl rfl ?_
                obtain ⟨v4_141, e4_141⟩ : ∃ z : Int32, z = v + (1) := ⟨_, rfl⟩
                refine pw_iinc (lv' := [(4, .int v4_141), (5, .int v5_41), (0, .ref m), (1, .int s), (2, .int jp), (3, .int jh)]) v4_141 h d_X8_stands_141 5 rfl e4_141.symm _ hml (by decide) rfl ?_
                refine pw_goto 14 h d_X8_stands_144 (by decide) ?_
                refine PW.perm [2, 3, 4, 5, 0] rfl ?_
                refine ih (p + 1) v4_141 _ (by omega) (by omega) (k_up e4_141 ev) ?_
                exact stI_y2 hq hp hs hk ek hv (Or.inr ⟨hnh, c5.trans ejn.symm⟩) eI3 eI4 eI5 ev (by rw [u2_n2 (by decide), c5, nI_1])
              · exact absurd (Int32.not_lt.mp c_114) c_45
            · exact absurd (Int32.not_lt.mp c_75) c_45
  refine PW.perm [1, 2, 3, 4, 0] rfl ?_
  exact cut_14 14 0 v4_12 _ (by omega) (Nat.zero_le _) e4_12 stI_0
