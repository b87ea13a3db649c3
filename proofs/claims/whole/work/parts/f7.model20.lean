set_option maxHeartbeats 4000000 in
set_option maxRecDepth 100000 in
theorem c_X8_lies {sh : Sh} {I : IM} {L : LM} {R : RM} {m n : Nat} {q : Nat → Nat} {hh w : Nat → Rat} {F H : Rat} (hM : ModF sh R m) (hc : CnM I m n q hh w F) (ok : okS q hh w F H n) {c : Int32} (h2 : 2 ≤ cntS (selM c) n) : PMet M_X8_lies [.ref m, .int c] sh I L R (lieP sh I L R m n (selM c) q hh w F) := by
  refine PMet.of mf_X8_lies (Nat.le_of_ble_eq_true rfl) ?_
  intro X h hr hml
  have hml : (xc X).maxLocals = 3 := hml
  have h : PXok X RX8 cX8_lies 7 0 0 := h
  have hr : PXr X (some .boolean) "lies" _ 0 0 := hr
  have hM0 := hM
  obtain ⟨f0, f1, f2, f3, f4, f5, f6, f7, f8, f9, f10, f11, f12, f13, f14, f15, f16, f17, f18, f19, f20, f21, f22, f23, f24, f25, f26, f27, g1, g2, g3, g4, g5, g6, g7, g8, g9, g10, g11, g12, g13, g14, g15, g16, g17, g18, g19, g20, g21, g22, g23, g24, g25, g26, g27⟩ := hM
  have h7 := ok.1
  have hB := okS_B ok h2
  have eN : cntS (selM c) n - 2 + 2 = cntS (selM c) n := by omega
  have hle := cntS_le (s := selM c) n
  show PW X 0 [(0, .ref m), (1, .int c)] [] sh I L R 0 0
  refine pw_aload_n h 0 d_X8_lies_0 rfl ?_
  refine pw_iload_n h 1 d_X8_lies_1 rfl ?_
  refine pw_callV (As := [.int _]) h d_X8_lies_2 mf_X8_chooses mi_X8_chooses ml_RX8_270 ⟨by decide, by decide, by decide⟩ (by assumption) rfl rfl (Nat.le_of_ble_eq_true rfl) trivial (c_X8_chooses hM0 hc.1 h7 _) ?_
  intro ret1 sh1 I1 L1 R1_ hp1
  obtain ⟨e0, e1, eI, eL, eR⟩ := hp1
  subst e0
  have e1 := e1.symm
  have eR := eR.symm
  have eL := eL.symm
  subst e1
  subst eR
  subst eL
  refine ⟨rfl, ?_⟩
  have f1_ : frCh m I I1 := by rw [eI]; exact frCh_ch
  have hS : SolM I1 m (cntS (selM c) n - 2) (lyN (selM c) q n) (lyQ (selM c) hh n) w F := by rw [eI]; exact ch_sol hc h2
  have hc1 := CnM_Ch hc f1_
  have hmany : I1 m 19 = nI (cntS (selM c) n) := by rw [eI]; exact chI_c
  clear eI
  obtain ⟨f, D, hF, hf1, hf2, hf3, hDQ, hD, hDl⟩ := f6_ok2 hB hS
  refine pw_aload_n h 0 d_X8_lies_5 rfl ?_
  refine pw_callV (As := []) h d_X8_lies_6 mf_X8_goes mi_X8_goes ml_RX8_274 ⟨by decide, by decide, by decide⟩ (by assumption) rfl rfl (Nat.le_of_ble_eq_true rfl) trivial (c_X8_goes hM0 hB hS) ?_
  intro ret2 sh2 I2 L2 R2_ hp2
  obtain ⟨e0, e1, eR, eI, hgo⟩ := hp2
  subst e0
  have e1 := e1.symm
  have eR := eR.symm
  have eI := eI.symm
  subst e1
  subst eR
  subst eI
  refine ⟨rfl, ?_⟩
  rw [eN] at hgo
  have g2 : frG m L L2 := frG_go hgo.1
  have hlo : loF L2 m (cntS (selM c) n - 2) (lyN (selM c) q n) (lyQ (selM c) hh n) w F := fun j hj => hgo.2.2.2 j (by omega)
  refine pw_iconst (x := 0) h d_X8_lies_9 (by decide) ?_
  refine pw_nmI (fun v2_10 e2_10 => ?_)
  refine pw_istore_n (lv' := [(2, .int v2_10), (0, .ref m), (1, .int c)]) h d_X8_lies_10 rfl _ hml (by decide) rfl ?_
  have cut_11 : ∀ (N i : Nat) (v : Int32), cntS (selM c) n < i + N → i ≤ cntS (selM c) n → v = nI i → (∀ j, j < i → 0 ≤ ldS (selM c) q hh w F n j) → PW X 11 [(0, .ref m), (1, .int c), (2, .int v)] [] sh I1 L2 R 0 0 := by
    intro N
    induction N with
    | zero => intros; omega
    | succ N ih =>
      intro i v hN hi ev hall
      refine pw_iload_n h 2 d_X8_lies_11 rfl ?_
      refine pw_aload_n h 0 d_X8_lies_12 rfl ?_
      refine pw_getI 8 h d_X8_lies_13 fd_RX8_215 (by assumption) rfl ?_
      refine pw_icmp_ge 38 h d_X8_lies_16 (by decide) (fun c_16 => ?_) (fun c_16 => ?_)
      · skip
        have hge : cntS (selM c) n ≤ i := k_ge ev hmany (by omega) (by omega) c_16
        have e9 : i = cntS (selM c) n := by omega
        subst e9
        refine pw_iconst (x := 0) h d_X8_lies_38 (by decide) ?_
        refine pw_nmI (fun v2_39 e2_39 => ?_)
        refine pw_istore_n (lv' := [(2, .int v2_39), (0, .ref m), (1, .int c)]) h d_X8_lies_39 rfl _ hml (by decide) rfl ?_
        have cut_40 : ∀ (N k : Nat) (v : Int32) (L3 : LM), n < k + N → k ≤ n → v = nI k → frG m L L3 → loF L3 m (cntS (selM c) n - 2) (lyN (selM c) q n) (lyQ (selM c) hh n) w F → (∀ b, b < k → selM c b = false → 0 ≤ tzS (selM c) q hh w F n (q b) - 6 * F * spS (selM c) q n * hh b) → PW X 40 [(0, .ref m), (1, .int c), (2, .int v)] [] sh I1 L3 R 0 0 := by
          intro N
          induction N with
          | zero => intros; omega
          | succ N ihk =>
            intro k v L3 hN hk1 ev g3 hlo3 hall3
            refine pw_iload_n h 2 d_X8_lies_40 rfl ?_
            refine pw_aload_n h 0 d_X8_lies_41 rfl ?_
            refine pw_getI 8 h d_X8_lies_42 fd_RX8_264 (by assumption) rfl ?_
            refine pw_icmp_ge 94 h d_X8_lies_45 (by decide) (fun c_45 => ?_) (fun c_45 => ?_)
            · skip
              have hge : n ≤ k := k_ge ev hc1.1 (by omega) (by omega) c_45
              have e9 : k = n := by omega
              subst e9
              refine pw_iconst (x := 1) h d_X8_lies_94 (by decide) ?_
              refine pw_iret h hr d_X8_lies_95 (by decide) (by decide) (by decide) ?_
              exact ⟨rfl, rfl, f1_, g3, true, rfl, ⟨fun _ => lie_end h2 hall hall3, fun _ => rfl⟩⟩
            · skip
              have hk : k < n := k_lt ev hc1.1 (by omega) (by omega) c_45
              have hxk : px_ix v 7 k := k_ix ev (by omega) (by decide)
              refine pw_iload_n h 1 d_X8_lies_48 rfl ?_
              refine pw_iload_n h 2 d_X8_lies_49 rfl ?_
              refine pw_ishr h d_X8_lies_50 ?_
              refine pw_iconst (x := 1) h d_X8_lies_51 (by decide) ?_
              refine pw_iand h d_X8_lies_52 ?_
              refine pw_if_ne 88 h d_X8_lies_53 (by decide) (fun c_53 => ?_) (fun c_53 => ?_)
              · skip
                obtain ⟨v2_88, e2_88⟩ : ∃ z : Int32, z = v + (1) := ⟨_, rfl⟩
                refine pw_iinc (lv' := [(2, .int v2_88), (0, .ref m), (1, .int c)]) v2_88 h d_X8_lies_88 2 rfl e2_88.symm _ hml (by decide) rfl ?_
                refine pw_goto 40 h d_X8_lies_91 (by decide) ?_
                refine PW.perm [1, 2, 0] rfl ?_
                refine ihk (k + 1) _ _ (by omega) (by omega) (k_up e2_88 ev) g3 hlo3 (fun b hb hs => ?_)
                by_cases e9 : b = k
                · rw [e9] at hs ⊢; rw [selM_t ev c_53] at hs; cases hs
                · exact hall3 b (by omega) hs
              · skip
                refine pw_aload_n h 0 d_X8_lies_56 rfl ?_
                refine pw_aload_n h 0 d_X8_lies_57 rfl ?_
                refine pw_getR (j := (m + 20)) 8 h d_X8_lies_58 fd_RX8_76 (by assumption) rfl (by assumption) ?_
                refine pw_iload_n h 2 d_X8_lies_61 rfl ?_
                refine pw_iald h d_X8_lies_62 (by assumption) (by assumption) ?_
                refine pw_callV (As := [.int _]) h d_X8_lies_63 mf_X8_height mi_X8_height ml_RX8_277 ⟨by decide, by decide, by decide⟩ (by assumption) rfl rfl (Nat.le_of_ble_eq_true rfl) trivial (c_X8_height hM0 hB hS hlo3 hDQ hD hDl hf3 hf1 hf2 (hc1.2.1 k hk) (by have q9 := ok.2.1.1 k hk; omega)) ?_
                intro ret4 sh4 I4 L4 R4_ hp4
                obtain ⟨e0, e1, eR, eI, g4u, p4⟩ := hp4
                subst e0
                have e1 := e1.symm
                have eR := eR.symm
                have eI := eI.symm
                subst e1
                subst eR
                subst eI
                refine ⟨rfl, ?_⟩
                have g4 : frG m L L4 := frG_t g3 (frG_U g4u)
                have hlo4 := loF_U g4u hlo3
                have hz := hc1.2.2.1 k hk
                refine pw_aload_n h 0 d_X8_lies_66 rfl ?_
                refine pw_getL 8 h d_X8_lies_67 fd_RX8_202 (by assumption) rfl ?_
                refine pw_aload_n h 0 d_X8_lies_70 rfl ?_
                refine pw_getR (j := (m + 21)) 8 h d_X8_lies_71 fd_RX8_79 (by assumption) rfl (by assumption) ?_
                refine pw_iload_n h 2 d_X8_lies_74 rfl ?_
                refine pw_iald h d_X8_lies_75 (by assumption) (by assumption) ?_
                refine pw_i2l h d_X8_lies_76 ?_
                refine pw_aload_n h 0 d_X8_lies_77 rfl ?_
                refine pw_getL 8 h d_X8_lies_78 fd_RX8_44 (by assumption) rfl ?_
                refine pw_lmul h d_X8_lies_81 ?_
                refine pw_lcmp h d_X8_lies_82 ?_
                refine pw_if_ge 88 h d_X8_lies_83 (by decide) (fun c_83 => ?_) (fun c_83 => ?_)
                · skip
                  have c83 := lc_ge.mp c_83
                  obtain ⟨v2_88, e2_88⟩ : ∃ z : Int32, z = v + (1) := ⟨_, rfl⟩
                  refine pw_iinc (lv' := [(2, .int v2_88), (0, .ref m), (1, .int c)]) v2_88 h d_X8_lies_88 2 rfl e2_88.symm _ hml (by decide) rfl ?_
                  refine pw_goto 40 h d_X8_lies_91 (by decide) ?_
                  refine PW.perm [1, 2, 0] rfl ?_
                  refine ihk (k + 1) _ _ (by omega) (by omega) (k_up e2_88 ev) g4 hlo4 (fun b hb hs => ?_)
                  by_cases e9 : b = k
                  · rw [e9] at hs ⊢; exact (hei_ok hB hF hf1 hf2 hDQ hD p4 hz).mp c83
                  · exact hall3 b (by omega) hs
                · skip
                  have c83 := fun q9 => c_83 (lc_ge.mpr q9)
                  have hsf := selM_f (c := c) ev c_53
                  refine pw_iconst (x := 0) h d_X8_lies_86 (by decide) ?_
                  refine pw_iret h hr d_X8_lies_87 (by decide) (by decide) (by decide) ?_
                  exact ⟨rfl, rfl, f1_, g4, false, rfl, ⟨fun q9 => absurd q9 (by decide), fun q9 => absurd ((hei_ok hB hF hf1 hf2 hDQ hD p4 hz).mpr (q9.2.2 k hk hsf)) c83⟩⟩
        refine PW.perm [1, 2, 0] rfl ?_
        exact cut_40 (n + 1) 0 _ _ (by omega) (Nat.zero_le _) e2_39 g2 hlo (fun b hb => absurd hb (Nat.not_lt_zero _))
      · skip
        have hin : i < cntS (selM c) n := k_lt ev hmany (by omega) (by omega) c_16
        have hx7 : px_ix v 7 i := k_ix ev (by omega) (by decide)
        have hR := hgo.2.2.2 i hin
        refine pw_aload_n h 0 d_X8_lies_19 rfl ?_
        refine pw_getR (j := (m + 14)) 8 h d_X8_lies_20 fd_RX8_57 (by assumption) rfl (by assumption) ?_
        refine pw_iload_n h 2 d_X8_lies_23 rfl ?_
        refine pw_lald h d_X8_lies_24 (by assumption) (by assumption) ?_
        refine pw_lconst (x := 0) h d_X8_lies_25 (by decide) ?_
        refine pw_lcmp h d_X8_lies_26 ?_
        refine pw_if_ge 32 h d_X8_lies_27 (by decide) (fun c_27 => ?_) (fun c_27 => ?_)
        · skip
          have c27 : 0 ≤ (L2 (m + 14) i).toInt := by rw [lc_ge, zL] at c_27; exact c_27
          obtain ⟨v2_32, e2_32⟩ : ∃ z : Int32, z = v + (1) := ⟨_, rfl⟩
          refine pw_iinc (lv' := [(2, .int v2_32), (0, .ref m), (1, .int c)]) v2_32 h d_X8_lies_32 2 rfl e2_32.symm _ hml (by decide) rfl ?_
          refine pw_goto 11 h d_X8_lies_35 (by decide) ?_
          refine PW.perm [1, 2, 0] rfl ?_
          refine ih (i + 1) _ (by omega) (by omega) (k_up e2_32 ev) (fun j hj => ?_)
          by_cases e9 : j = i
          · rw [e9]; exact (RF_nn hR).mp c27
          · exact hall j (by omega)
        · skip
          have c27 : ¬ 0 ≤ (L2 (m + 14) i).toInt := by rw [lc_ge, zL] at c_27; exact c_27
          have hno := lie_no1 hin hR c27
          refine pw_iconst (x := 0) h d_X8_lies_30 (by decide) ?_
          refine pw_iret h hr d_X8_lies_31 (by decide) (by decide) (by decide) ?_
          exact ⟨rfl, rfl, f1_, g2, false, rfl, ⟨fun q9 => absurd q9 (by decide), fun q9 => absurd q9 hno⟩⟩
  refine PW.perm [1, 2, 0] rfl ?_
  exact cut_11 (cntS (selM c) n + 1) 0 _ (by omega) (Nat.zero_le _) e2_10 (fun j hj => absurd hj (Nat.not_lt_zero _))

set_option maxHeartbeats 4000000 in
set_option maxRecDepth 100000 in
theorem c_X8_rests {sh : Sh} {I : IM} {L : LM} {R : RM} {m n : Nat} {q : Nat → Nat} {hh w : Nat → Rat} {F H : Rat} (hM : ModF sh R m) (hc : CnM I m n q hh w F) (ok : okS q hh w F H n) : PMet M_X8_rests [.ref m] sh I L R (rsmP sh I L R m n q hh w F) := by
  refine PMet.of mf_X8_rests (Nat.le_of_ble_eq_true rfl) ?_
  intro X h hr hml
  have hml : (xc X).maxLocals = 5 := hml
  have h : PXok X RX8 cX8_rests 8 0 0 := h
  have hr : PXr X (some .int) "rests" _ 0 0 := hr
  have hM0 := hM
  obtain ⟨f0, f1, f2, f3, f4, f5, f6, f7, f8, f9, f10, f11, f12, f13, f14, f15, f16, f17, f18, f19, f20, f21, f22, f23, f24, f25, f26, f27, g1, g2, g3, g4, g5, g6, g7, g8, g9, g10, g11, g12, g13, g14, g15, g16, g17, g18, g19, g20, g21, g22, g23, g24, g25, g26, g27⟩ := hM
  have h7 := ok.1
  have h128 := p7 h7
  have hp2 : 0 < 2 ^ n := Nat.two_pow_pos n
  show PW X 0 [(0, .ref m)] [] sh I L R 0 0
  refine pw_iconst (x := 2) h d_X8_rests_0 (by decide) ?_
  refine pw_nmI (fun v1_1 e1_1 => ?_)
  refine pw_istore_n (lv' := [(1, .int v1_1), (0, .ref m)]) h d_X8_rests_1 rfl _ hml (by decide) rfl ?_
  have cut_2 : ∀ (N sz : Nat) (v : Int32) (I2 : IM) (L2 : LM), n + 2 < sz + N → 2 ≤ sz → sz ≤ n + 2 → v = nI sz → frCh m I I2 → frG m L L2 → (∀ d, d < 2 ^ n → 2 ≤ popN d → popN d < sz → ¬ lieM n q hh w F d) → PW X 2 [(0, .ref m), (1, .int v)] [] sh I2 L2 R 0 0 := by
    intro N
    induction N with
    | zero => intros; omega
    | succ N iho =>
      intro sz v I2 L2 hN hz hz2 ev f2 g2 hno
      have hc2 := CnM_Ch hc f2
      refine pw_iload_n h 1 d_X8_rests_2 rfl ?_
      refine pw_aload_n h 0 d_X8_rests_3 rfl ?_
      refine pw_getI 8 h d_X8_rests_4 fd_RX8_264 (by assumption) rfl ?_
      refine pw_icmp_gt 98 h d_X8_rests_7 (by decide) (fun c_7 => ?_) (fun c_7 => ?_)
      · skip
        have hlt : n < sz := k_lt2 hc2.1 ev (by omega) (by omega) c_7
        refine pw_bipush (x := (-4)) h d_X8_rests_98 (by decide) ?_
        refine pw_iret h hr d_X8_rests_100 rfl (by decide) (by decide) ?_
        exact ⟨rfl, rfl, f2, g2, Or.inr ⟨rsm_no h7 (fun t t1 t2 => hno t t1 t2 (by have := pop_le n h7 t t1; omega)), rfl⟩⟩
      · skip
        have hge : sz ≤ n := k_ge2 hc2.1 ev (by omega) (by omega) c_7
        refine pw_bipush (x := (-4)) h d_X8_rests_10 (by decide) ?_
        refine pw_nmI (fun v2_12 e2_12 => ?_)
        refine pw_istore_n (lv' := [(2, .int v2_12), (0, .ref m), (1, .int v)]) h d_X8_rests_12 rfl _ hml (by decide) rfl ?_
        refine pw_iconst (x := 0) h d_X8_rests_13 (by decide) ?_
        refine pw_nmI (fun v3_14 e3_14 => ?_)
        refine pw_istore_n (lv' := [(3, .int v3_14), (2, .int v2_12), (0, .ref m), (1, .int v)]) h d_X8_rests_14 rfl _ hml (by decide) rfl ?_
        have cut_15 : ∀ (N d : Nat) (b u : Int32) (I3 : IM) (L3 : LM), 2 ^ n < d + N → d ≤ 2 ^ n → u = nI d → frCh m I I3 → frG m L L3 → bstM n q hh w F sz d b → PW X 15 [(0, .ref m), (1, .int v), (2, .int b), (3, .int u)] [] sh I3 L3 R 0 0 := by
          intro N
          induction N with
          | zero => intros; omega
          | succ N ih =>
            intro d b u I3 L3 hN hd1 ed f3 g3 hb3
            have hc3 := CnM_Ch hc f3
            have hsh : (1 : Int32) <<< (I3 m 32 &&& 31) = nI (2 ^ n) := by rw [hc3.1]; exact shl_2 n h7
            refine pw_iload_n h 3 d_X8_rests_15 rfl ?_
            refine pw_iconst (x := 1) h d_X8_rests_16 (by decide) ?_
            refine pw_aload_n h 0 d_X8_rests_17 rfl ?_
            refine pw_getI 8 h d_X8_rests_18 fd_RX8_264 (by assumption) rfl ?_
            refine pw_ishl h d_X8_rests_21 ?_
            refine pw_icmp_ge 77 h d_X8_rests_22 (by decide) (fun c_22 => ?_) (fun c_22 => ?_)
            · skip
              have hge2 : 2 ^ n ≤ d := k_ge ed hsh (by omega) (by omega) c_22
              have e9 : d = 2 ^ n := by omega
              subst e9
              refine pw_iload_n h 2 d_X8_rests_77 rfl ?_
              refine pw_if_lt 92 h d_X8_rests_78 (by decide) (fun c_78 => ?_) (fun c_78 => ?_)
              · skip
                have hbn : ∀ t, t < 2 ^ n → popN t = sz → ¬ lieM n q hh w F t := by
                  rcases hb3 with ⟨e0, h9⟩ | ⟨e, he, e0, h9⟩
                  · exact h9
                  · rw [e0] at c_78; exact absurd (nI_ge0 (by omega)) (Int32.not_le.mpr c_78)
                obtain ⟨v1_92, e1_92⟩ : ∃ z : Int32, z = v + (1) := ⟨_, rfl⟩
                refine pw_iinc (lv' := [(1, .int v1_92), (0, .ref m), (2, .int b), (3, .int u)]) v1_92 h d_X8_rests_92 1 rfl e1_92.symm _ hml (by decide) rfl ?_
                refine pw_goto 2 h d_X8_rests_95 (by decide) ?_
                refine PW.perm [1, 0] rfl ?_
                refine iho (sz + 1) _ _ _ (by omega) (by omega) (by omega) (k_up e1_92 ev) f3 g3 (fun t t1 t2 t3 => ?_)
                by_cases e9 : popN t = sz
                · exact hbn t t1 e9
                · exact hno t t1 t2 (by omega)
              · skip
                obtain ⟨e, he, eb, hpe, hle, hbest⟩ : ∃ e, e < 2 ^ n ∧ b = nI e ∧ popN e = sz ∧ lieM n q hh w F e ∧ ∀ t, t < 2 ^ n → popN t = sz → lieM n q hh w F t → rvN n t ≤ rvN n e := by
                  rcases hb3 with ⟨e0, h9⟩ | h9
                  · rw [e0] at c_78; exact absurd (by decide) c_78
                  · exact h9
                have h2b : 2 ≤ cntS (selM b) n := by rw [eb, selM_cnt h7 he]; omega
                refine pw_aload_n h 0 d_X8_rests_81 rfl ?_
                refine pw_iload_n h 2 d_X8_rests_82 rfl ?_
                refine pw_callV (As := [.int _]) h d_X8_rests_83 mf_X8_chooses mi_X8_chooses ml_RX8_270 ⟨by decide, by decide, by decide⟩ (by assumption) rfl rfl (Nat.le_of_ble_eq_true rfl) trivial (c_X8_chooses hM0 hc3.1 h7 _) ?_
                intro ret5 sh5 I5 L5 R5_ hp5
                obtain ⟨e0, e1, eI, eL, eR⟩ := hp5
                subst e0
                have e1 := e1.symm
                have eR := eR.symm
                have eL := eL.symm
                subst e1
                subst eR
                subst eL
                refine ⟨rfl, ?_⟩
                have f5 : frCh m I I5 := frCh_t f3 (by rw [eI]; exact frCh_ch)
                have hS5 : SolM I5 m (cntS (selM b) n - 2) (lyN (selM b) q n) (lyQ (selM b) hh n) w F := by rw [eI]; exact ch_sol hc3 h2b
                clear eI
                refine pw_aload_n h 0 d_X8_rests_86 rfl ?_
                refine pw_callV (As := []) h d_X8_rests_87 mf_X8_goes mi_X8_goes ml_RX8_274 ⟨by decide, by decide, by decide⟩ (by assumption) rfl rfl (Nat.le_of_ble_eq_true rfl) trivial (c_X8_goes hM0 (okS_B ok h2b) hS5) ?_
                intro ret6 sh6 I6 L6 R6_ hp6
                obtain ⟨e0, e1, eR, eI, hgo⟩ := hp6
                subst e0
                have e1 := e1.symm
                have eR := eR.symm
                have eI := eI.symm
                subst e1
                subst eR
                subst eI
                refine ⟨rfl, ?_⟩
                have g6 : frG m L L6 := frG_t g3 (frG_go hgo.1)
                have hlo : loF L6 m (cntS (selM b) n - 2) (lyN (selM b) q n) (lyQ (selM b) hh n) w F := fun j hj => hgo.2.2.2 j hj
                refine pw_iload_n h 2 d_X8_rests_90 rfl ?_
                refine pw_iret h hr d_X8_rests_91 rfl (by decide) (by decide) ?_
                exact rsm_end h7 he f5 g6 (by omega) hle (fun t t1 t2 t3 => hno t t1 t2 (by omega)) (fun t t1 t2 t3 => hbest t t1 (by omega) t3) eb hS5 hlo
            · skip
              have hd2 : d < 2 ^ n := k_lt ed hsh (by omega) (by omega) c_22
              have hsv : sizM u 7 = nI (popN d) := by rw [ed]; exact siz_pop d (by omega)
              have hpl := pop_le n h7 d hd2
              refine pw_iload_n h 3 d_X8_rests_25 rfl ?_
              refine pw_callS (As := [.int _]) h d_X8_rests_26 mf_X8_size st_yX8_size ml_RX8_280 ⟨by decide, by decide, by decide⟩ rfl rfl (Nat.le_of_ble_eq_true rfl) c_X8_size ?_
              refine PKk.ret ?_
              refine pw_iload_n h 1 d_X8_rests_29 rfl ?_
              refine pw_icmp_ne 49 h d_X8_rests_30 (by decide) (fun c_30 => ?_) (fun c_30 => ?_)
              · skip
                have hsz : ¬ nI (popN d) = v := fun q9 => c_30 (by rw [hsv]; exact q9)
                refine pw_iconst (x := 0) h d_X8_rests_49 (by decide) ?_
                refine pw_nmI (fun v4_50 e4_50 => ?_)
                refine pw_istore (lv' := [(4, .int v4_50), (0, .ref m), (1, .int v), (2, .int b), (3, .int u)]) h d_X8_rests_50 _ hml (by decide) rfl ?_
                refine pw_iload h 0 d_X8_rests_52 rfl ?_
                refine pw_if_eq 69 h d_X8_rests_54 (by decide) (fun c_54 => ?_) (fun c_54 => ?_)
                · skip
                  refine pw_iload_n h 3 d_X8_rests_69 rfl ?_
                  refine pw_nmI (fun v2_70 e2_70 => ?_)
                  refine pw_istore_n (lv' := [(2, .int v2_70), (4, .int v4_50), (0, .ref m), (1, .int v), (3, .int u)]) h d_X8_rests_70 rfl _ hml (by decide) rfl ?_
                  obtain ⟨v3_71, e3_71⟩ : ∃ z : Int32, z = u + (1) := ⟨_, rfl⟩
                  refine pw_iinc (lv' := [(3, .int v3_71), (2, .int v2_70), (4, .int v4_50), (0, .ref m), (1, .int v)]) v3_71 h d_X8_rests_71 4 rfl e3_71.symm _ hml (by decide) rfl ?_
                  refine pw_goto 15 h d_X8_rests_74 (by decide) ?_
                  refine PW.perm [3, 4, 1, 0] rfl ?_
                  refine ih (d + 1) _ _ _ _ (by omega) (by omega) (k_up e3_71 ed) f3 g3 ?_
                  rw [e2_70]
                  exact bst_n hb3 (fun q9 => absurd (by rw [q9, ev]) hsz)
                · exact absurd e4_50 c_54
              · skip
                have q9 : nI (popN d) = nI sz := by rw [← hsv, ← ev]; exact c_30
                have hpd : popN d = sz := (nI_eq (by omega) (by omega)).mp q9
                have h2d : 2 ≤ cntS (selM u) n := by rw [ed, selM_cnt h7 hd2]; omega
                refine pw_iload_n h 2 d_X8_rests_33 rfl ?_
                refine pw_if_lt 45 h d_X8_rests_34 (by decide) (fun c_34 => ?_) (fun c_34 => ?_)
                · skip
                  refine pw_iconst (x := 1) h d_X8_rests_45 (by decide) ?_
                  refine pw_goto 50 h d_X8_rests_46 (by decide) ?_
                  refine pw_nmI (fun v4_50 e4_50 => ?_)
                  refine pw_istore (lv' := [(4, .int v4_50), (0, .ref m), (1, .int v), (2, .int b), (3, .int u)]) h d_X8_rests_50 _ hml (by decide) rfl ?_
                  refine pw_iload h 0 d_X8_rests_52 rfl ?_
                  refine pw_if_eq 69 h d_X8_rests_54 (by decide) (fun c_54 => ?_) (fun c_54 => ?_)
                  · exact absurd (e4_50.symm.trans c_54) (by decide)
                  · skip
                    refine pw_aload_n h 1 d_X8_rests_57 rfl ?_
                    refine pw_iload_n h 4 d_X8_rests_58 rfl ?_
                    refine pw_callV (As := [.int _]) h d_X8_rests_59 mf_X8_lies mi_X8_lies ml_RX8_287 ⟨by decide, by decide, by decide⟩ (by assumption) rfl rfl (Nat.le_of_ble_eq_true rfl) trivial (c_X8_lies hM0 hc3 ok h2d) ?_
                    intro ret4 sh4 I4 L4 R4 hp4
                    obtain ⟨e1, eR, f4q, g4q, bl, ebl, hbl⟩ := hp4
                    have e1 := e1.symm
                    have eR := eR.symm
                    subst e1
                    subst eR
                    subst ebl
                    have f4 := frCh_t f3 f4q
                    have g4 := frG_t g3 g4q
                    rw [ed] at hbl
                    refine ⟨rfl, ?_⟩
                    refine pw_if_eq 69 h d_X8_rests_62 (by decide) (fun c_62 => ?_) (fun c_62 => ?_)
                    · skip
                      rw [bI_1] at c_62
                      refine pw_iload_n h 3 d_X8_rests_69 rfl ?_
                      refine pw_nmI (fun v2_70 e2_70 => ?_)
                      refine pw_istore_n (lv' := [(2, .int v2_70), (4, .int v4_50), (0, .ref m), (1, .int v), (3, .int u)]) h d_X8_rests_70 rfl _ hml (by decide) rfl ?_
                      obtain ⟨v3_71, e3_71⟩ : ∃ z : Int32, z = u + (1) := ⟨_, rfl⟩
                      refine pw_iinc (lv' := [(3, .int v3_71), (2, .int v2_70), (4, .int v4_50), (0, .ref m), (1, .int v)]) v3_71 h d_X8_rests_71 4 rfl e3_71.symm _ hml (by decide) rfl ?_
                      refine pw_goto 15 h d_X8_rests_74 (by decide) ?_
                      refine PW.perm [3, 4, 1, 0] rfl ?_
                      refine ih (d + 1) _ _ _ _ (by omega) (by omega) (k_up e3_71 ed) f4 g4 ?_
                      rw [e2_70]
                      exact bst_n hb3 (fun _ q9 => by have := hbl.mpr q9; rw [this] at c_62; cases c_62)
                    · skip
                      rw [bI_1, Bool.not_eq_false] at c_62
                      refine pw_iload_n h 4 d_X8_rests_65 rfl ?_
                      refine pw_goto 70 h d_X8_rests_66 (by decide) ?_
                      refine pw_nmI (fun v2_70 e2_70 => ?_)
                      refine pw_istore_n (lv' := [(2, .int v2_70), (4, .int v4_50), (0, .ref m), (1, .int v), (3, .int u)]) h d_X8_rests_70 rfl _ hml (by decide) rfl ?_
                      obtain ⟨v3_71, e3_71⟩ : ∃ z : Int32, z = u + (1) := ⟨_, rfl⟩
                      refine pw_iinc (lv' := [(3, .int v3_71), (2, .int v2_70), (4, .int v4_50), (0, .ref m), (1, .int v)]) v3_71 h d_X8_rests_71 4 rfl e3_71.symm _ hml (by decide) rfl ?_
                      refine pw_goto 15 h d_X8_rests_74 (by decide) ?_
                      refine PW.perm [3, 4, 1, 0] rfl ?_
                      refine ih (d + 1) _ _ _ _ (by omega) (by omega) (k_up e3_71 ed) f4 g4 ?_
                      refine bst_b hb3 (e2_70.trans ed) hpd (hbl.mp c_62) (fun e e0 he => ?_)
                      rw [e0] at c_34
                      exact absurd (nI_ge0 (by omega)) (Int32.not_le.mpr c_34)
                · skip
                  refine pw_iload_n h 3 d_X8_rests_37 rfl ?_
                  refine pw_iload_n h 2 d_X8_rests_38 rfl ?_
                  refine pw_callS (As := [.int _, .int _]) h d_X8_rests_39 mf_X8_isAhead st_yX8_isAhead ml_RX8_283 ⟨by decide, by decide, by decide⟩ rfl rfl (Nat.le_of_ble_eq_true rfl) c_X8_isAhead ?_
                  refine PKk.ret ?_
                  refine pw_if_eq 49 h d_X8_rests_42 (by decide) (fun c_42 => ?_) (fun c_42 => ?_)
                  · skip
                    rw [bI_1] at c_42
                    refine pw_iconst (x := 0) h d_X8_rests_49 (by decide) ?_
                    refine pw_nmI (fun v4_50 e4_50 => ?_)
                    refine pw_istore (lv' := [(4, .int v4_50), (0, .ref m), (1, .int v), (2, .int b), (3, .int u)]) h d_X8_rests_50 _ hml (by decide) rfl ?_
                    refine pw_iload h 0 d_X8_rests_52 rfl ?_
                    refine pw_if_eq 69 h d_X8_rests_54 (by decide) (fun c_54 => ?_) (fun c_54 => ?_)
                    · skip
                      refine pw_iload_n h 3 d_X8_rests_69 rfl ?_
                      refine pw_nmI (fun v2_70 e2_70 => ?_)
                      refine pw_istore_n (lv' := [(2, .int v2_70), (4, .int v4_50), (0, .ref m), (1, .int v), (3, .int u)]) h d_X8_rests_70 rfl _ hml (by decide) rfl ?_
                      obtain ⟨v3_71, e3_71⟩ : ∃ z : Int32, z = u + (1) := ⟨_, rfl⟩
                      refine pw_iinc (lv' := [(3, .int v3_71), (2, .int v2_70), (4, .int v4_50), (0, .ref m), (1, .int v)]) v3_71 h d_X8_rests_71 4 rfl e3_71.symm _ hml (by decide) rfl ?_
                      refine pw_goto 15 h d_X8_rests_74 (by decide) ?_
                      refine PW.perm [3, 4, 1, 0] rfl ?_
                      refine ih (d + 1) _ _ _ _ (by omega) (by omega) (k_up e3_71 ed) f3 g3 ?_
                      rw [e2_70]
                      refine bst_k hb3 c_34 (fun e e0 he => ?_)
                      rw [ed, e0, rv_ahd h7 hd2 (by omega)] at c_42
                      have := of_decide_eq_false c_42
                      omega
                    · exact absurd e4_50 c_54
                  · skip
                    rw [bI_1, Bool.not_eq_false] at c_42
                    refine pw_iconst (x := 1) h d_X8_rests_45 (by decide) ?_
                    refine pw_goto 50 h d_X8_rests_46 (by decide) ?_
                    refine pw_nmI (fun v4_50 e4_50 => ?_)
                    refine pw_istore (lv' := [(4, .int v4_50), (0, .ref m), (1, .int v), (2, .int b), (3, .int u)]) h d_X8_rests_50 _ hml (by decide) rfl ?_
                    refine pw_iload h 0 d_X8_rests_52 rfl ?_
                    refine pw_if_eq 69 h d_X8_rests_54 (by decide) (fun c_54 => ?_) (fun c_54 => ?_)
                    · exact absurd (e4_50.symm.trans c_54) (by decide)
                    · skip
                      refine pw_aload_n h 1 d_X8_rests_57 rfl ?_
                      refine pw_iload_n h 4 d_X8_rests_58 rfl ?_
                      refine pw_callV (As := [.int _]) h d_X8_rests_59 mf_X8_lies mi_X8_lies ml_RX8_287 ⟨by decide, by decide, by decide⟩ (by assumption) rfl rfl (Nat.le_of_ble_eq_true rfl) trivial (c_X8_lies hM0 hc3 ok h2d) ?_
                      intro ret4 sh4 I4 L4 R4 hp4
                      obtain ⟨e1, eR, f4q, g4q, bl, ebl, hbl⟩ := hp4
                      have e1 := e1.symm
                      have eR := eR.symm
                      subst e1
                      subst eR
                      subst ebl
                      have f4 := frCh_t f3 f4q
                      have g4 := frG_t g3 g4q
                      rw [ed] at hbl
                      refine ⟨rfl, ?_⟩
                      refine pw_if_eq 69 h d_X8_rests_62 (by decide) (fun c_62 => ?_) (fun c_62 => ?_)
                      · skip
                        rw [bI_1] at c_62
                        refine pw_iload_n h 3 d_X8_rests_69 rfl ?_
                        refine pw_nmI (fun v2_70 e2_70 => ?_)
                        refine pw_istore_n (lv' := [(2, .int v2_70), (4, .int v4_50), (0, .ref m), (1, .int v), (3, .int u)]) h d_X8_rests_70 rfl _ hml (by decide) rfl ?_
                        obtain ⟨v3_71, e3_71⟩ : ∃ z : Int32, z = u + (1) := ⟨_, rfl⟩
                        refine pw_iinc (lv' := [(3, .int v3_71), (2, .int v2_70), (4, .int v4_50), (0, .ref m), (1, .int v)]) v3_71 h d_X8_rests_71 4 rfl e3_71.symm _ hml (by decide) rfl ?_
                        refine pw_goto 15 h d_X8_rests_74 (by decide) ?_
                        refine PW.perm [3, 4, 1, 0] rfl ?_
                        refine ih (d + 1) _ _ _ _ (by omega) (by omega) (k_up e3_71 ed) f4 g4 ?_
                        rw [e2_70]
                        exact bst_n hb3 (fun _ q9 => by have := hbl.mpr q9; rw [this] at c_62; cases c_62)
                      · skip
                        rw [bI_1, Bool.not_eq_false] at c_62
                        refine pw_iload_n h 4 d_X8_rests_65 rfl ?_
                        refine pw_goto 70 h d_X8_rests_66 (by decide) ?_
                        refine pw_nmI (fun v2_70 e2_70 => ?_)
                        refine pw_istore_n (lv' := [(2, .int v2_70), (4, .int v4_50), (0, .ref m), (1, .int v), (3, .int u)]) h d_X8_rests_70 rfl _ hml (by decide) rfl ?_
                        obtain ⟨v3_71, e3_71⟩ : ∃ z : Int32, z = u + (1) := ⟨_, rfl⟩
                        refine pw_iinc (lv' := [(3, .int v3_71), (2, .int v2_70), (4, .int v4_50), (0, .ref m), (1, .int v)]) v3_71 h d_X8_rests_71 4 rfl e3_71.symm _ hml (by decide) rfl ?_
                        refine pw_goto 15 h d_X8_rests_74 (by decide) ?_
                        refine PW.perm [3, 4, 1, 0] rfl ?_
                        refine ih (d + 1) _ _ _ _ (by omega) (by omega) (k_up e3_71 ed) f4 g4 ?_
                        refine bst_b hb3 (e2_70.trans ed) hpd (hbl.mp c_62) (fun e e0 he => ?_)
                        rw [ed, e0, rv_ahd h7 hd2 (by omega)] at c_42
                        have := of_decide_eq_true c_42
                        omega
        refine PW.perm [2, 3, 1, 0] rfl ?_
        exact cut_15 (2 ^ n + 1) 0 _ _ _ _ (by omega) (Nat.zero_le _) e3_14 f2 g2 (by rw [e2_12]; exact bst_0)
  refine PW.perm [1, 0] rfl ?_
  exact cut_2 (n + 3) 2 _ I L (by omega) (by omega) (by omega) e1_1 frCh_0 frG_0 (fun d h1 h2 h3 => by omega)

set_option maxHeartbeats 4000000 in
set_option maxRecDepth 100000 in
theorem c_X8_loadOf {sh : Sh} {I : IM} {L : LM} {R : RM} {m n b : Nat} {s : Nat → Bool} {q : Nat → Nat} {hh w : Nat → Rat} {F H : Rat} (hM : ModF sh R m) (ok : okS q hh w F H n) (h2 : 2 ≤ cntS s n) (hS : SolM I m (cntS s n - 2) (lyN s q n) (lyQ s hh n) w F) (hlo : loF L m (cntS s n - 2) (lyN s q n) (lyQ s hh n) w F) {c u : Int32} (hsel : ∀ k, k < n → selM c k = s k) (eu : u = nI b) (hb : b < n) : PMet M_X8_loadOf [.ref m, .int c, .int u] sh I L R (lofP sh I L R m (qLdG s q hh w F n b)) := by
  refine PMet.of mf_X8_loadOf (Nat.le_of_ble_eq_true rfl) ?_
  intro X h hr hml
  have hml : (xc X).maxLocals = 5 := hml
  have h : PXok X RX8 cX8_loadOf 3 0 0 := h
  have hr : PXr X none "loadOf" _ 0 0 := hr
  have hM0 := hM
  obtain ⟨f0, f1, f2, f3, f4, f5, f6, f7, f8, f9, f10, f11, f12, f13, f14, f15, f16, f17, f18, f19, f20, f21, f22, f23, f24, f25, f26, f27, g1, g2, g3, g4, g5, g6, g7, g8, g9, g10, g11, g12, g13, g14, g15, g16, g17, g18, g19, g20, g21, g22, g23, g24, g25, g26, g27⟩ := hM
  have h7 := ok.1
  have hB := okS_B ok h2
  have hle := cntS_le (s := s) b
  show PW X 0 [(0, .ref m), (1, .int c), (2, .int u)] [] sh I L R 0 0
  refine pw_iconst (x := 0) h d_X8_loadOf_0 (by decide) ?_
  refine pw_nmI (fun v3_1 e3_1 => ?_)
  refine pw_istore_n (lv' := [(3, .int v3_1), (0, .ref m), (1, .int c), (2, .int u)]) h d_X8_loadOf_1 rfl _ hml (by decide) rfl ?_
  refine pw_iconst (x := 0) h d_X8_loadOf_2 (by decide) ?_
  refine pw_nmI (fun v4_3 e4_3 => ?_)
  refine pw_istore (lv' := [(4, .int v4_3), (3, .int v3_1), (0, .ref m), (1, .int c), (2, .int u)]) h d_X8_loadOf_3 _ hml (by decide) rfl ?_
  have cut_5 : ∀ (N j : Nat) (y v : Int32), b < j + N → j ≤ b → v = nI j → y = nI (cntS s j) → PW X 5 [(0, .ref m), (1, .int c), (2, .int u), (3, .int y), (4, .int v)] [] sh I L R 0 0 := by
    intro N
    induction N with
    | zero => intros; omega
    | succ N ih =>
      intro j y v hN hj ev ey
      refine pw_iload h 4 d_X8_loadOf_5 rfl ?_
      refine pw_iload_n h 2 d_X8_loadOf_7 rfl ?_
      refine pw_icmp_ge 26 h d_X8_loadOf_8 (by decide) (fun c_8 => ?_) (fun c_8 => ?_)
      · skip
        have hge : b ≤ j := k_ge ev eu (by omega) (by omega) c_8
        have e9 : b = j := by omega
        subst e9
        refine pw_iload_n h 1 d_X8_loadOf_26 rfl ?_
        refine pw_iload_n h 2 d_X8_loadOf_27 rfl ?_
        refine pw_ishr h d_X8_loadOf_28 ?_
        refine pw_iconst (x := 1) h d_X8_loadOf_29 (by decide) ?_
        refine pw_iand h d_X8_loadOf_30 ?_
        refine pw_iconst (x := 1) h d_X8_loadOf_31 (by decide) ?_
        refine pw_icmp_ne 39 h d_X8_loadOf_32 (by decide) (fun c_32 => ?_) (fun c_32 => ?_)
        · skip
          have hsb : s b = false := by rw [← hsel b hb]; exact decide_eq_false (by rw [← eu]; exact c_32)
          refine pw_iconst (x := 0) h d_X8_loadOf_39 (by decide) ?_
          refine pw_nmI (fun v4_40 e4_40 => ?_)
          refine pw_istore (lv' := [(4, .int v4_40), (0, .ref m), (1, .int c), (2, .int u), (3, .int y)]) h d_X8_loadOf_40 _ hml (by decide) rfl ?_
          refine pw_aload_n h 1 d_X8_loadOf_42 rfl ?_
          refine pw_iload h 0 d_X8_loadOf_43 rfl ?_
          refine pw_if_eq 57 h d_X8_loadOf_45 (by decide) (fun c_45 => ?_) (fun c_45 => ?_)
          · skip
            refine pw_lconst (x := 0) h d_X8_loadOf_57 (by decide) ?_
            refine pw_iload h 0 d_X8_loadOf_58 rfl ?_
            refine pw_if_eq 72 h d_X8_loadOf_60 (by decide) (fun c_60 => ?_) (fun c_60 => ?_)
            · skip
              refine pw_lconst (x := 1) h d_X8_loadOf_72 (by decide) ?_
              refine pw_callV (As := [.long _, .long _]) h d_X8_loadOf_73 mf_X8_makes mi_X8_makes ml_RX8_205 ⟨by decide, by decide, by decide⟩ (by assumption) rfl rfl (Nat.le_of_ble_eq_true rfl) trivial (c_X8_makes hM0 _ _ (mk_0 (L := L) (m := m)).1) ?_
              intro ret3 sh3 I3 L3 R3_ hp3
              obtain ⟨e0, e1, eI, eL, eR⟩ := hp3
              subst e0
              have e1 := e1.symm
              have eR := eR.symm
              have eI := eI.symm
              subst e1
              subst eR
              subst eI
              refine ⟨rfl, ?_⟩
              have f3 : frF m L L3 := by rw [eL]; exact mkL_fr
              have r3 : RF (L3 m 17) (L3 m 18) (qLdG s q hh w F n b) := by unfold qLdG; rw [if_neg (by rw [hsb]; decide)]; rw [eL]; exact mk_0.2
              clear eL
              refine pw_vret h hr d_X8_loadOf_76 (by decide) (by decide) ?_
              exact ⟨rfl, rfl, rfl, rfl, f3, r3⟩
            · exact absurd e4_40 c_60
          · exact absurd e4_40 c_45
        · skip
          have hsb : s b = true := by rw [← hsel b hb]; exact decide_eq_true (by rw [← eu]; exact c_32)
          have hlt0 := cntS_mono hsb n hb
          have hlt : cntS s b < cntS s n - 2 + 2 := by omega
          have hle2 := cntS_le (s := s) n
          have hx7 : px_ix y 7 (cntS s b) := k_ix ey (by omega) (by decide)
          have hR := hlo (cntS s b) hlt
          refine pw_iconst (x := 1) h d_X8_loadOf_35 (by decide) ?_
          refine pw_goto 40 h d_X8_loadOf_36 (by decide) ?_
          refine pw_nmI (fun v4_40 e4_40 => ?_)
          refine pw_istore (lv' := [(4, .int v4_40), (0, .ref m), (1, .int c), (2, .int u), (3, .int y)]) h d_X8_loadOf_40 _ hml (by decide) rfl ?_
          refine pw_aload_n h 1 d_X8_loadOf_42 rfl ?_
          refine pw_iload h 0 d_X8_loadOf_43 rfl ?_
          refine pw_if_eq 57 h d_X8_loadOf_45 (by decide) (fun c_45 => ?_) (fun c_45 => ?_)
          · exact absurd (e4_40.symm.trans c_45) (by decide)
          · skip
            refine pw_aload_n h 1 d_X8_loadOf_48 rfl ?_
            refine pw_getR (j := (m + 14)) 8 h d_X8_loadOf_49 fd_RX8_57 (by assumption) rfl (by assumption) ?_
            refine pw_iload_n h 4 d_X8_loadOf_52 rfl ?_
            refine pw_lald h d_X8_loadOf_53 (by assumption) (by assumption) ?_
            refine pw_goto 58 h d_X8_loadOf_54 (by decide) ?_
            refine pw_iload h 0 d_X8_loadOf_58 rfl ?_
            refine pw_if_eq 72 h d_X8_loadOf_60 (by decide) (fun c_60 => ?_) (fun c_60 => ?_)
            · exact absurd (e4_40.symm.trans c_60) (by decide)
            · skip
              refine pw_aload_n h 1 d_X8_loadOf_63 rfl ?_
              refine pw_getR (j := (m + 15)) 8 h d_X8_loadOf_64 fd_RX8_61 (by assumption) rfl (by assumption) ?_
              refine pw_iload_n h 4 d_X8_loadOf_67 rfl ?_
              refine pw_lald h d_X8_loadOf_68 (by assumption) (by assumption) ?_
              refine pw_goto 73 h d_X8_loadOf_69 (by decide) ?_
              refine pw_callV (As := [.long _, .long _]) h d_X8_loadOf_73 mf_X8_makes mi_X8_makes ml_RX8_205 ⟨by decide, by decide, by decide⟩ (by assumption) rfl rfl (Nat.le_of_ble_eq_true rfl) trivial (c_X8_makes hM0 _ _ (mk_lo (L := L) hB hS hlt hR).1) ?_
              intro ret3 sh3 I3 L3 R3_ hp3
              obtain ⟨e0, e1, eI, eL, eR⟩ := hp3
              subst e0
              have e1 := e1.symm
              have eR := eR.symm
              have eI := eI.symm
              subst e1
              subst eR
              subst eI
              refine ⟨rfl, ?_⟩
              have f3 : frF m L L3 := by rw [eL]; exact mkL_fr
              have r3 : RF (L3 m 17) (L3 m 18) (qLdG s q hh w F n b) := by unfold qLdG; rw [if_pos hsb]; rw [eL]; exact (mk_lo (L := L) hB hS hlt hR).2
              clear eL
              refine pw_vret h hr d_X8_loadOf_76 (by decide) (by decide) ?_
              exact ⟨rfl, rfl, rfl, rfl, f3, r3⟩
      · skip
        have hjl : j < b := k_lt ev eu (by omega) (by omega) c_8
        refine pw_iload_n h 3 d_X8_loadOf_11 rfl ?_
        refine pw_iload_n h 1 d_X8_loadOf_12 rfl ?_
        refine pw_iload h 4 d_X8_loadOf_13 rfl ?_
        refine pw_ishr h d_X8_loadOf_15 ?_
        refine pw_iconst (x := 1) h d_X8_loadOf_16 (by decide) ?_
        refine pw_iand h d_X8_loadOf_17 ?_
        refine pw_iadd h d_X8_loadOf_18 ?_
        refine pw_nmI (fun v3_19 e3_19 => ?_)
        refine pw_istore_n (lv' := [(3, .int v3_19), (0, .ref m), (1, .int c), (2, .int u), (4, .int v)]) h d_X8_loadOf_19 rfl _ hml (by decide) rfl ?_
        obtain ⟨v4_20, e4_20⟩ : ∃ z : Int32, z = v + (1) := ⟨_, rfl⟩
        refine pw_iinc (lv' := [(4, .int v4_20), (3, .int v3_19), (0, .ref m), (1, .int c), (2, .int u)]) v4_20 h d_X8_loadOf_20 4 rfl e4_20.symm _ hml (by decide) rfl ?_
        refine pw_goto 5 h d_X8_loadOf_23 (by decide) ?_
        refine PW.perm [2, 3, 4, 1, 0] rfl ?_
        exact ih (j + 1) _ _ (by omega) (by omega) (k_up e4_20 ev) (by rw [e3_19, selM_v (c := c) ev, hsel j (by omega)]; exact add_cnt ey)
  refine PW.perm [2, 3, 4, 1, 0] rfl ?_
  exact cut_5 (b + 1) 0 _ _ (by omega) (Nat.zero_le _) e4_3 e3_1
