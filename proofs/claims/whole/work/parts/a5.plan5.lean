set_option maxHeartbeats 4000000 in
set_option maxRecDepth 100000 in
theorem c_X3_takeMoves {sh : Sh} {I : IM} {L : LM} {R : RM} (hP : PlanF sh R 61) (hl1 : R 61 2 = some 1) (hL : LineF sh R 1) {A : LA} (hm : CLm I A) (a : okA A) (h4 : aN A ≤ 4) (h2n : 2 ≤ aN A) {t : Nat} (ht : t < 625) {tn : Int32} (et : tn = nI t) {o : Option Nat} (ho : PlR I (aN A) o) : PMet M_X3_takeMoves [.ref 61, .int tn] sh I L R (tkmP sh I L R A t o) := by
  refine PMet.of mf_X3_takeMoves (Nat.le_of_ble_eq_true rfl) ?_
  intro X h hr hml
  have hml : (xc X).maxLocals = 6 := hml
  have h : PXok X RX3 cX3_takeMoves 1 0 0 := h
  have hr : PXr X (some .boolean) "takeMoves" _ 0 0 := hr
  have hP0 := hP
  obtain ⟨p0, p1, p2, p3, p4, p5, p6, p7, p8, p9, r1, r7, r8, r9, r10, r11, r12, r13, r14⟩ := id hP
  obtain ⟨f0, f1, f2, f3, f4, f5, g1, g2, g3, g4, g5⟩ := id hL
  have hn := hm.1
  have h6 := a.1
  have ho1 : ordK (aN A) ≤ 11 := (ord_ok (aN A) h4).1
  show PW X 0 [(0, .ref 61), (1, .int tn)] [] sh I L R 0 0
  refine pw_iload_n h 1 d_X3_takeMoves_0 rfl ?_
  refine pw_nmI (fun v2_1 e2_1 => ?_)
  refine pw_istore_n (lv' := [(2, .int v2_1), (0, .ref 61), (1, .int tn)]) h d_X3_takeMoves_1 rfl _ hml (by decide) rfl ?_
  refine pw_iconst (x := 0) h d_X3_takeMoves_2 (by decide) ?_
  refine pw_nmI (fun v3_3 e3_3 => ?_)
  refine pw_istore_n (lv' := [(3, .int v3_3), (2, .int v2_1), (0, .ref 61), (1, .int tn)]) h d_X3_takeMoves_3 rfl _ hml (by decide) rfl ?_
  refine pw_iconst (x := 0) h d_X3_takeMoves_4 (by decide) ?_
  refine pw_nmI (fun v4_5 e4_5 => ?_)
  refine pw_istore (lv' := [(4, .int v4_5), (3, .int v3_3), (2, .int v2_1), (0, .ref 61), (1, .int tn)]) h d_X3_takeMoves_5 _ hml (by decide) rfl ?_
  refine pw_aload_n h 3 d_X3_takeMoves_7 rfl ?_
  refine pw_getR (j := 1) 3 h d_X3_takeMoves_8 fd_RX3_19 (by assumption) rfl (by assumption) ?_
  refine pw_getI 2 h d_X3_takeMoves_11 fd_RX3_61 (by assumption) rfl ?_
  refine pw_iconst (x := 1) h d_X3_takeMoves_14 (by decide) ?_
  refine pw_isub h d_X3_takeMoves_15 ?_
  refine pw_nmI (fun v5_16 e5_16 => ?_)
  refine pw_istore (lv' := [(5, .int v5_16), (4, .int v4_5), (3, .int v3_3), (2, .int v2_1), (0, .ref 61), (1, .int tn)]) h d_X3_takeMoves_16 _ hml (by decide) rfl ?_
  have cut_18 : ∀ (N d : Nat) (l m s y : Int32) (I2 : IM), aN A < d + N → d ≤ aN A → l = nI (t / 5 ^ d) → m = nI (mnyR (aN A) t d) → s = nI (smvR (aN A) t d) → y = nI (aN A - d) - 1 → tkS I I2 A t d → PW X 18 [(0, .ref 61), (1, .int tn), (2, .int l), (3, .int m), (4, .int s), (5, .int y)] [] sh I2 L R 0 0 := by
    intro N
    induction N with
    | zero => intros; omega
    | succ N ih =>
      intro d l m s y I2 hN hd el em es ey hk
      have hdl : t / 5 ^ d ≤ t := Nat.div_le_self _ _
      have hmny := mny_le (n := aN A) (t := t) d
      have hsb1 : (nI (aN A - d) - 1).toInt = ((aN A - d : Nat) : Int) - 1 := pk_sub_toInt (b := 1) (by omega) (by decide)
      refine pw_iload h 5 d_X3_takeMoves_18 rfl ?_
      refine pw_if_lt 106 h d_X3_takeMoves_20 (by decide) (fun c_20 => ?_) (fun c_20 => ?_)
      · skip
        have hd0 : d = aN A := by rw [Int32.lt_iff_toInt_lt, ey, hsb1] at c_20; have z : (0 : Int32).toInt = 0 := rfl; omega
        rw [hd0] at hk em es
        have hko := tk_ok' hk
        have ho2 := PlR_fr (I' := I2) ho (fun b k c => hk.1 b k (by omega))
        refine pw_aload_n h 0 d_X3_takeMoves_106 rfl ?_
        refine pw_getI 3 h d_X3_takeMoves_107 fd_RX3_9 (by assumption) rfl ?_
        refine pw_if_lt 138 h d_X3_takeMoves_110 (by decide) (fun c_110 => ?_) (fun c_110 => ?_)
        · skip
          have hbt : betT (aN A) o t := bet_0 h4 ho2 c_110
          refine pw_iconst (x := 1) h d_X3_takeMoves_138 (by decide) ?_
          refine pw_goto 143 h d_X3_takeMoves_139 (by decide) ?_
          refine pw_iret h hr d_X3_takeMoves_143 (by decide) (by decide) (by decide) ?_
          first | exact ⟨rfl, rfl, rfl, hk.1, true, rfl, ⟨fun _ => ⟨hko.1, hbt⟩, fun _ => rfl⟩, fun _ => hko.2⟩ | exact ⟨rfl, rfl, rfl, hk.1, false, rfl, ⟨fun q => (by cases q), fun q => absurd q.2 hbn⟩, fun q => (by cases q)⟩
        · skip
          have hb3 := bet_1 (t := t) h4 ho2 c_110 em es
          refine pw_iload_n h 3 d_X3_takeMoves_113 rfl ?_
          refine pw_aload_n h 0 d_X3_takeMoves_114 rfl ?_
          refine pw_getI 3 h d_X3_takeMoves_115 fd_RX3_9 (by assumption) rfl ?_
          refine pw_icmp_lt 138 h d_X3_takeMoves_118 (by decide) (fun c_118 => ?_) (fun c_118 => ?_)
          · skip
            have hbt := hb3.1 c_118
            refine pw_iconst (x := 1) h d_X3_takeMoves_138 (by decide) ?_
            refine pw_goto 143 h d_X3_takeMoves_139 (by decide) ?_
            refine pw_iret h hr d_X3_takeMoves_143 (by decide) (by decide) (by decide) ?_
            first | exact ⟨rfl, rfl, rfl, hk.1, true, rfl, ⟨fun _ => ⟨hko.1, hbt⟩, fun _ => rfl⟩, fun _ => hko.2⟩ | exact ⟨rfl, rfl, rfl, hk.1, false, rfl, ⟨fun q => (by cases q), fun q => absurd q.2 hbn⟩, fun q => (by cases q)⟩
          · skip
            refine pw_iload_n h 3 d_X3_takeMoves_121 rfl ?_
            refine pw_aload_n h 0 d_X3_takeMoves_122 rfl ?_
            refine pw_getI 3 h d_X3_takeMoves_123 fd_RX3_9 (by assumption) rfl ?_
            refine pw_icmp_ne 142 h d_X3_takeMoves_126 (by decide) (fun c_126 => ?_) (fun c_126 => ?_)
            · skip
              have hbn := hb3.2.1 c_118 c_126
              refine pw_iconst (x := 0) h d_X3_takeMoves_142 (by decide) ?_
              refine pw_iret h hr d_X3_takeMoves_143 (by decide) (by decide) (by decide) ?_
              first | exact ⟨rfl, rfl, rfl, hk.1, true, rfl, ⟨fun _ => ⟨hko.1, hbt⟩, fun _ => rfl⟩, fun _ => hko.2⟩ | exact ⟨rfl, rfl, rfl, hk.1, false, rfl, ⟨fun q => (by cases q), fun q => absurd q.2 hbn⟩, fun q => (by cases q)⟩
            · skip
              refine pw_iload h 4 d_X3_takeMoves_129 rfl ?_
              refine pw_aload_n h 0 d_X3_takeMoves_131 rfl ?_
              refine pw_getI 3 h d_X3_takeMoves_132 fd_RX3_30 (by assumption) rfl ?_
              refine pw_icmp_ge 142 h d_X3_takeMoves_135 (by decide) (fun c_135 => ?_) (fun c_135 => ?_)
              · skip
                have hbn := (hb3.2.2 c_126).2 (nlt_of_ge c_135)
                refine pw_iconst (x := 0) h d_X3_takeMoves_142 (by decide) ?_
                refine pw_iret h hr d_X3_takeMoves_143 (by decide) (by decide) (by decide) ?_
                first | exact ⟨rfl, rfl, rfl, hk.1, true, rfl, ⟨fun _ => ⟨hko.1, hbt⟩, fun _ => rfl⟩, fun _ => hko.2⟩ | exact ⟨rfl, rfl, rfl, hk.1, false, rfl, ⟨fun q => (by cases q), fun q => absurd q.2 hbn⟩, fun q => (by cases q)⟩
              · skip
                have hbt := (hb3.2.2 c_126).1 (lt_of_nge c_135)
                refine pw_iconst (x := 1) h d_X3_takeMoves_138 (by decide) ?_
                refine pw_goto 143 h d_X3_takeMoves_139 (by decide) ?_
                refine pw_iret h hr d_X3_takeMoves_143 (by decide) (by decide) (by decide) ?_
                first | exact ⟨rfl, rfl, rfl, hk.1, true, rfl, ⟨fun _ => ⟨hko.1, hbt⟩, fun _ => rfl⟩, fun _ => hko.2⟩ | exact ⟨rfl, rfl, rfl, hk.1, false, rfl, ⟨fun q => (by cases q), fun q => absurd q.2 hbn⟩, fun q => (by cases q)⟩
      · skip
        have hdlt : d < aN A := by rw [Int32.lt_iff_toInt_lt, ey, hsb1] at c_20; have z : (0 : Int32).toInt = 0 := rfl; omega
        have ey2 : y = nI (aN A - 1 - d) := by rw [ey]; exact (k_dn1 rfl (by omega)).trans (by rw [show aN A - d - 1 = aN A - 1 - d by omega])
        have hx4 := k_ix ey2 (show (aN A - 1 - d) < 4 by omega) (by decide)
        have hx6 := k_ix ey2 (show (aN A - 1 - d) < 6 by omega) (by decide)
        have hdg := mv_dig el (by omega)
        have hdz : (l - l / 5 * 5 - 2).toInt = mvZ (aN A) t (aN A - 1 - d) := by rw [hdg.1]; unfold mvZ; rw [show aN A - 1 - (aN A - 1 - d) = d by omega]
        have hz2 := mvZ_in (n := aN A) (t := t) (k := (aN A - 1 - d))
        have ho3 := hm.2.2.1 (aN A - 1 - d) (by omega)
        have ho4 := a.2.2.1 (aN A - 1 - d) (by omega)
        have hsum : (I2 3 (aN A - 1 - d) + (l - l / 5 * 5 - 2)).toInt = aO A (aN A - 1 - d) + mvZ (aN A) t (aN A - 1 - d) := add_small (by rw [hk.1 3 _ (by decide)]; exact ho3) hdz (by omega) (by omega)
        refine pw_aload_n h 0 d_X3_takeMoves_23 rfl ?_
        refine pw_getR (j := 69) 3 h d_X3_takeMoves_24 fd_RX3_55 (by assumption) rfl (by assumption) ?_
        refine pw_iload h 5 d_X3_takeMoves_27 rfl ?_
        refine pw_iload_n h 2 d_X3_takeMoves_29 rfl ?_
        refine pw_iconst (x := 5) h d_X3_takeMoves_30 (by decide) ?_
        refine pw_irem h d_X3_takeMoves_31 (by decide) ?_
        refine pw_iconst (x := 2) h d_X3_takeMoves_32 (by decide) ?_
        refine pw_isub h d_X3_takeMoves_33 ?_
        refine pw_iast h d_X3_takeMoves_34 (by assumption) hx4 ?_
        refine pw_iload_n h 2 d_X3_takeMoves_35 rfl ?_
        refine pw_iconst (x := 5) h d_X3_takeMoves_36 (by decide) ?_
        refine pw_idiv h d_X3_takeMoves_37 (by decide) ?_
        refine pw_nmI (fun v2_38 e2_38 => ?_)
        refine pw_istore_n (lv' := [(2, .int v2_38), (0, .ref 61), (1, .int tn), (3, .int m), (4, .int s), (5, .int y)]) h d_X3_takeMoves_38 rfl _ hml (by decide) rfl ?_
        refine pw_aload_n h 1 d_X3_takeMoves_39 rfl ?_
        refine pw_getR (j := 1) 3 h d_X3_takeMoves_40 fd_RX3_19 (by assumption) rfl (by assumption) ?_
        refine pw_getR (j := 3) 2 h d_X3_takeMoves_43 fd_RX3_99 (by assumption) rfl (by assumption) ?_
        refine pw_iload h 5 d_X3_takeMoves_46 rfl ?_
        refine pw_iald h d_X3_takeMoves_48 (by assumption) hx6 ?_
        refine pw_aload_n h 1 d_X3_takeMoves_49 rfl ?_
        refine pw_getR (j := 69) 3 h d_X3_takeMoves_50 fd_RX3_55 (by assumption) rfl (by assumption) ?_
        refine pw_iload h 5 d_X3_takeMoves_53 rfl ?_
        refine pw_iald h d_X3_takeMoves_55 (by assumption) hx4 ?_
        refine pw_iadd h d_X3_takeMoves_56 ?_
        refine pw_mabs h d_X3_takeMoves_57 ml_RX3_128 (by decide) (Nat.le_of_ble_eq_true rfl) (by decide) (by decide) ?_
        refine pw_bipush (x := 50) h d_X3_takeMoves_60 (by decide) ?_
        refine pw_icmp_le 67 h d_X3_takeMoves_62 (by decide) (fun c_62 => ?_) (fun c_62 => ?_)
        · skip
          have hrng : -50 ≤ aO A (aN A - 1 - d) + mvZ (aN A) t (aN A - 1 - d) ∧ aO A (aN A - 1 - d) + mvZ (aN A) t (aN A - 1 - d) ≤ 50 := by have := i_le c_62; rw [u2_n1 (by decide), u2_s, abs_50 hsum (by omega)] at this; have z : (50 : Int32).toInt = 50 := rfl; omega
          refine pw_iload_n h 3 d_X3_takeMoves_67 rfl ?_
          refine pw_aload_n h 1 d_X3_takeMoves_68 rfl ?_
          refine pw_getR (j := 69) 3 h d_X3_takeMoves_69 fd_RX3_55 (by assumption) rfl (by assumption) ?_
          refine pw_iload h 5 d_X3_takeMoves_72 rfl ?_
          refine pw_iald h d_X3_takeMoves_74 (by assumption) hx4 ?_
          refine pw_if_ne 82 h d_X3_takeMoves_75 (by decide) (fun c_75 => ?_) (fun c_75 => ?_)
          · skip
            have hz : ¬ mvZ (aN A) t (aN A - 1 - d) = 0 := fun q => c_75 (by rw [u2_s]; exact Int32.toInt_inj.mp (by rw [hdz, q]; rfl))
            refine pw_iconst (x := 1) h d_X3_takeMoves_82 (by decide) ?_
            refine pw_iadd h d_X3_takeMoves_83 ?_
            refine pw_nmI (fun v3_84 e3_84 => ?_)
            refine pw_istore_n (lv' := [(3, .int v3_84), (2, .int v2_38), (0, .ref 61), (1, .int tn), (4, .int s), (5, .int y)]) h d_X3_takeMoves_84 rfl _ hml (by decide) rfl ?_
            refine pw_iload h 4 d_X3_takeMoves_85 rfl ?_
            refine pw_aload_n h 2 d_X3_takeMoves_87 rfl ?_
            refine pw_getR (j := 69) 3 h d_X3_takeMoves_88 fd_RX3_55 (by assumption) rfl (by assumption) ?_
            refine pw_iload h 5 d_X3_takeMoves_91 rfl ?_
            refine pw_iald h d_X3_takeMoves_93 (by assumption) hx4 ?_
            refine pw_mabs h d_X3_takeMoves_94 ml_RX3_128 (by decide) (Nat.le_of_ble_eq_true rfl) (by decide) (by decide) ?_
            refine pw_iadd h d_X3_takeMoves_97 ?_
            refine pw_nmI (fun v4_98 e4_98 => ?_)
            refine pw_istore (lv' := [(4, .int v4_98), (3, .int v3_84), (2, .int v2_38), (0, .ref 61), (1, .int tn), (5, .int y)]) h d_X3_takeMoves_98 _ hml (by decide) rfl ?_
            obtain ⟨v5_100, e5_100⟩ : ∃ z : Int32, z = y + (-1) := ⟨_, rfl⟩
            refine pw_iinc (lv' := [(5, .int v5_100), (4, .int v4_98), (3, .int v3_84), (2, .int v2_38), (0, .ref 61), (1, .int tn)]) v5_100 h d_X3_takeMoves_100 5 rfl e5_100.symm _ hml (by decide) rfl ?_
            refine pw_goto 18 h d_X3_takeMoves_103 (by decide) ?_
            refine PW.perm [4, 5, 3, 2, 1, 0] rfl ?_
            refine ih (d + 1) v2_38 v3_84 v4_98 v5_100 _ (by omega) (by omega) (by rw [e2_38, hdg.2, div_pow5]) (by simp only [mnyR]; first | (rw [e3_84, em, if_pos hz]; exact Int32.add_zero _) | (rw [e3_84, em, if_neg hz]; exact nI_1 _)) (by simp only [smvR]; rw [e4_98, es, u2_s, abs_nI hdz (by omega), nI_add]) (by rw [e5_100, ey, show aN A - d = (aN A - (d + 1)) + 1 by omega, ← nI_1]; exact sub_two) (tk_s hk hdlt hdz hrng)
          · skip
            have hz : mvZ (aN A) t (aN A - 1 - d) = 0 := by rw [u2_s] at c_75; rw [← hdz, c_75]; rfl
            refine pw_iconst (x := 0) h d_X3_takeMoves_78 (by decide) ?_
            refine pw_goto 83 h d_X3_takeMoves_79 (by decide) ?_
            refine pw_iadd h d_X3_takeMoves_83 ?_
            refine pw_nmI (fun v3_84 e3_84 => ?_)
            refine pw_istore_n (lv' := [(3, .int v3_84), (2, .int v2_38), (0, .ref 61), (1, .int tn), (4, .int s), (5, .int y)]) h d_X3_takeMoves_84 rfl _ hml (by decide) rfl ?_
            refine pw_iload h 4 d_X3_takeMoves_85 rfl ?_
            refine pw_aload_n h 2 d_X3_takeMoves_87 rfl ?_
            refine pw_getR (j := 69) 3 h d_X3_takeMoves_88 fd_RX3_55 (by assumption) rfl (by assumption) ?_
            refine pw_iload h 5 d_X3_takeMoves_91 rfl ?_
            refine pw_iald h d_X3_takeMoves_93 (by assumption) hx4 ?_
            refine pw_mabs h d_X3_takeMoves_94 ml_RX3_128 (by decide) (Nat.le_of_ble_eq_true rfl) (by decide) (by decide) ?_
            refine pw_iadd h d_X3_takeMoves_97 ?_
            refine pw_nmI (fun v4_98 e4_98 => ?_)
            refine pw_istore (lv' := [(4, .int v4_98), (3, .int v3_84), (2, .int v2_38), (0, .ref 61), (1, .int tn), (5, .int y)]) h d_X3_takeMoves_98 _ hml (by decide) rfl ?_
            obtain ⟨v5_100, e5_100⟩ : ∃ z : Int32, z = y + (-1) := ⟨_, rfl⟩
            refine pw_iinc (lv' := [(5, .int v5_100), (4, .int v4_98), (3, .int v3_84), (2, .int v2_38), (0, .ref 61), (1, .int tn)]) v5_100 h d_X3_takeMoves_100 5 rfl e5_100.symm _ hml (by decide) rfl ?_
            refine pw_goto 18 h d_X3_takeMoves_103 (by decide) ?_
            refine PW.perm [4, 5, 3, 2, 1, 0] rfl ?_
            refine ih (d + 1) v2_38 v3_84 v4_98 v5_100 _ (by omega) (by omega) (by rw [e2_38, hdg.2, div_pow5]) (by simp only [mnyR]; first | (rw [e3_84, em, if_pos hz]; exact Int32.add_zero _) | (rw [e3_84, em, if_neg hz]; exact nI_1 _)) (by simp only [smvR]; rw [e4_98, es, u2_s, abs_nI hdz (by omega), nI_add]) (by rw [e5_100, ey, show aN A - d = (aN A - (d + 1)) + 1 by omega, ← nI_1]; exact sub_two) (tk_s hk hdlt hdz hrng)
        · skip
          have hbad : ¬ okM A (mvZ (aN A) t) := fun q => by have h9 := q (aN A - 1 - d) (by omega); have := i_nle c_62; rw [u2_n1 (by decide), u2_s, abs_50 hsum (by omega)] at this; have z : (50 : Int32).toInt = 50 := rfl; omega
          refine pw_iconst (x := 0) h d_X3_takeMoves_65 (by decide) ?_
          refine pw_iret h hr d_X3_takeMoves_66 rfl (by decide) (by decide) ?_
          exact ⟨rfl, rfl, rfl, fun b k c => by rw [u2_n1 c]; exact hk.1 b k c, false, rfl, ⟨fun q => (by cases q), fun q => absurd q.1 hbad⟩, fun q => (by cases q)⟩
  refine PW.perm [4, 5, 3, 2, 1, 0] rfl ?_
  exact cut_18 (aN A + 1) 0 v2_1 v3_3 v4_5 v5_16 _ (by omega) (by omega) (by rw [e2_1, et, Nat.pow_zero, Nat.div_one]) e3_3 e4_5 (by rw [e5_16, hn]; rfl) tk_0

set_option maxHeartbeats 4000000 in
set_option maxRecDepth 100000 in
theorem c_X3_keepMoves {sh : Sh} {I : IM} {L : LM} {R : RM} (hP : PlanF sh R 61) (hl1 : R 61 2 = some 1) (hL : LineF sh R 1) {A : LA} (hm : CLm I A) (a : okA A) (h4 : aN A ≤ 4) (h2n : 2 ≤ aN A) {t : Nat} (hmv : ∀ k, k < aN A → (I 69 k).toInt = mvZ (aN A) t k) : PMet M_X3_keepMoves [.ref 61] sh I L R (fun ret sh' I' L' R' => ret = none ∧ sh' = sh ∧ R' = R ∧ L' = L ∧ kpS I I' (aN A) t (aN A)) := by
  refine PMet.of mf_X3_keepMoves (Nat.le_of_ble_eq_true rfl) ?_
  intro X h hr hml
  have hml : (xc X).maxLocals = 2 := hml
  have h : PXok X RX3 cX3_keepMoves 1 0 0 := h
  have hr : PXr X none "keepMoves" _ 0 0 := hr
  have hP0 := hP
  obtain ⟨p0, p1, p2, p3, p4, p5, p6, p7, p8, p9, r1, r7, r8, r9, r10, r11, r12, r13, r14⟩ := id hP
  obtain ⟨f0, f1, f2, f3, f4, f5, g1, g2, g3, g4, g5⟩ := id hL
  have hn := hm.1
  have h6 := a.1
  have ho1 : ordK (aN A) ≤ 11 := (ord_ok (aN A) h4).1
  show PW X 0 [(0, .ref 61)] [] sh I L R 0 0
  refine pw_aload_n h 0 d_X3_keepMoves_0 rfl ?_
  refine pw_iconst (x := 0) h d_X3_keepMoves_1 (by decide) ?_
  refine pw_putI 3 h d_X3_keepMoves_2 fd_RX3_9 (by assumption) rfl rfl rfl rfl ?_
  refine pw_aload_n h 0 d_X3_keepMoves_5 rfl ?_
  refine pw_iconst (x := 0) h d_X3_keepMoves_6 (by decide) ?_
  refine pw_putI 3 h d_X3_keepMoves_7 fd_RX3_30 (by assumption) rfl rfl rfl rfl ?_
  refine pw_iconst (x := 0) h d_X3_keepMoves_10 (by decide) ?_
  refine pw_nmI (fun v1_11 e1_11 => ?_)
  refine pw_istore_n (lv' := [(1, .int v1_11), (0, .ref 61)]) h d_X3_keepMoves_11 rfl _ hml (by decide) rfl ?_
  have cut_12 : ∀ (N k : Nat) (y : Int32) (I2 : IM), aN A < k + N → k ≤ aN A → y = nI k → kpS I I2 (aN A) t k → PW X 12 [(0, .ref 61), (1, .int y)] [] sh I2 L R 0 0 := by
    intro N
    induction N with
    | zero => intros; omega
    | succ N ih =>
      intro k y I2 hN hk ey hp
      refine pw_iload_n h 1 d_X3_keepMoves_12 rfl ?_
      refine pw_aload_n h 0 d_X3_keepMoves_13 rfl ?_
      refine pw_getR (j := 1) 3 h d_X3_keepMoves_14 fd_RX3_19 (by assumption) rfl (by assumption) ?_
      refine pw_getI 2 h d_X3_keepMoves_17 fd_RX3_61 (by assumption) rfl ?_
      refine pw_icmp_ge 82 h d_X3_keepMoves_20 (by decide) (fun c_20 => ?_) (fun c_20 => ?_)
      · skip
        have hge := k_ge ey (n := aN A) (by rw [hp.1 _ _ (by decide) (Or.inl (by decide))]; exact hn) (by omega) (by omega) c_20
        have e9 : k = aN A := by omega
        rw [e9] at hp
        refine pw_vret h hr d_X3_keepMoves_82 (by decide) (by decide) ?_
        exact ⟨rfl, rfl, rfl, rfl, hp⟩
      · skip
        have hlt := k_lt ey (n := aN A) (by rw [hp.1 _ _ (by decide) (Or.inl (by decide))]; exact hn) (by omega) (by omega) c_20
        have hx4 := k_ix ey (show k < 4 by omega) (by decide)
        have hmk : (I2 69 k).toInt = mvZ (aN A) t k := by rw [hp.1 _ _ (by decide) (Or.inl (by decide))]; exact hmv k hlt
        have hz2 := mvZ_in (n := aN A) (t := t) (k := k)
        have hab := abs_nI hmk (by omega)
        refine pw_aload_n h 0 d_X3_keepMoves_23 rfl ?_
        refine pw_getR (j := 62) 3 h d_X3_keepMoves_24 fd_RX3_15 (by assumption) rfl (by assumption) ?_
        refine pw_iload_n h 1 d_X3_keepMoves_27 rfl ?_
        refine pw_aload_n h 0 d_X3_keepMoves_28 rfl ?_
        refine pw_getR (j := 69) 3 h d_X3_keepMoves_29 fd_RX3_55 (by assumption) rfl (by assumption) ?_
        refine pw_iload_n h 1 d_X3_keepMoves_32 rfl ?_
        refine pw_iald h d_X3_keepMoves_33 (by assumption) (by assumption) ?_
        refine pw_iast h d_X3_keepMoves_34 (by assumption) (by assumption) ?_
        refine pw_aload_n h 0 d_X3_keepMoves_35 rfl ?_
        refine pw_dupR h d_X3_keepMoves_36 ?_
        refine pw_getI 3 h d_X3_keepMoves_37 fd_RX3_9 (by assumption) rfl ?_
        refine pw_aload_n h 0 d_X3_keepMoves_40 rfl ?_
        refine pw_getR (j := 69) 3 h d_X3_keepMoves_41 fd_RX3_55 (by assumption) rfl (by assumption) ?_
        refine pw_iload_n h 1 d_X3_keepMoves_44 rfl ?_
        refine pw_iald h d_X3_keepMoves_45 (by assumption) (by assumption) ?_
        refine pw_if_ne 53 h d_X3_keepMoves_46 (by decide) (fun c_46 => ?_) (fun c_46 => ?_)
        · skip
          have hz : ¬ mvZ (aN A) t k = 0 := fun q => c_46 (by rw [u2_n1 (by decide)]; exact Int32.toInt_inj.mp (by rw [hmk, q]; rfl))
          refine pw_iconst (x := 1) h d_X3_keepMoves_53 (by decide) ?_
          refine pw_iadd h d_X3_keepMoves_54 ?_
          refine pw_putI 3 h d_X3_keepMoves_55 fd_RX3_9 (by assumption) rfl rfl rfl rfl ?_
          refine pw_aload_n h 0 d_X3_keepMoves_58 rfl ?_
          refine pw_dupR h d_X3_keepMoves_59 ?_
          refine pw_getI 3 h d_X3_keepMoves_60 fd_RX3_30 (by assumption) rfl ?_
          refine pw_aload_n h 0 d_X3_keepMoves_63 rfl ?_
          refine pw_getR (j := 69) 3 h d_X3_keepMoves_64 fd_RX3_55 (by assumption) rfl (by assumption) ?_
          refine pw_iload_n h 1 d_X3_keepMoves_67 rfl ?_
          refine pw_iald h d_X3_keepMoves_68 (by assumption) (by assumption) ?_
          refine pw_mabs h d_X3_keepMoves_69 ml_RX3_128 (by decide) (Nat.le_of_ble_eq_true rfl) (by decide) (by decide) ?_
          refine pw_iadd h d_X3_keepMoves_72 ?_
          refine pw_putI 3 h d_X3_keepMoves_73 fd_RX3_30 (by assumption) rfl rfl rfl rfl ?_
          obtain ⟨v1_76, e1_76⟩ : ∃ z : Int32, z = y + (1) := ⟨_, rfl⟩
          refine pw_iinc (lv' := [(1, .int v1_76), (0, .ref 61)]) v1_76 h d_X3_keepMoves_76 1 rfl e1_76.symm _ hml (by decide) rfl ?_
          refine pw_goto 12 h d_X3_keepMoves_79 (by decide) ?_
          refine PW.perm [1, 0] rfl ?_
          first
            | exact ih (k + 1) v1_76 _ (by omega) (by omega) (k_up e1_76 ey) (kp_s hp hmk (c := 0) (by rw [if_pos hz]; rfl) hab)
            | exact ih (k + 1) v1_76 _ (by omega) (by omega) (k_up e1_76 ey) (kp_s hp hmk (c := 1) (by rw [if_neg hz]; rfl) hab)
        · skip
          have hz : mvZ (aN A) t k = 0 := by rw [u2_n1 (by decide)] at c_46; rw [← hmk, c_46]; rfl
          refine pw_iconst (x := 0) h d_X3_keepMoves_49 (by decide) ?_
          refine pw_goto 54 h d_X3_keepMoves_50 (by decide) ?_
          refine pw_iadd h d_X3_keepMoves_54 ?_
          refine pw_putI 3 h d_X3_keepMoves_55 fd_RX3_9 (by assumption) rfl rfl rfl rfl ?_
          refine pw_aload_n h 0 d_X3_keepMoves_58 rfl ?_
          refine pw_dupR h d_X3_keepMoves_59 ?_
          refine pw_getI 3 h d_X3_keepMoves_60 fd_RX3_30 (by assumption) rfl ?_
          refine pw_aload_n h 0 d_X3_keepMoves_63 rfl ?_
          refine pw_getR (j := 69) 3 h d_X3_keepMoves_64 fd_RX3_55 (by assumption) rfl (by assumption) ?_
          refine pw_iload_n h 1 d_X3_keepMoves_67 rfl ?_
          refine pw_iald h d_X3_keepMoves_68 (by assumption) (by assumption) ?_
          refine pw_mabs h d_X3_keepMoves_69 ml_RX3_128 (by decide) (Nat.le_of_ble_eq_true rfl) (by decide) (by decide) ?_
          refine pw_iadd h d_X3_keepMoves_72 ?_
          refine pw_putI 3 h d_X3_keepMoves_73 fd_RX3_30 (by assumption) rfl rfl rfl rfl ?_
          obtain ⟨v1_76, e1_76⟩ : ∃ z : Int32, z = y + (1) := ⟨_, rfl⟩
          refine pw_iinc (lv' := [(1, .int v1_76), (0, .ref 61)]) v1_76 h d_X3_keepMoves_76 1 rfl e1_76.symm _ hml (by decide) rfl ?_
          refine pw_goto 12 h d_X3_keepMoves_79 (by decide) ?_
          refine PW.perm [1, 0] rfl ?_
          first
            | exact ih (k + 1) v1_76 _ (by omega) (by omega) (k_up e1_76 ey) (kp_s hp hmk (c := 0) (by rw [if_pos hz]; rfl) hab)
            | exact ih (k + 1) v1_76 _ (by omega) (by omega) (k_up e1_76 ey) (kp_s hp hmk (c := 1) (by rw [if_neg hz]; rfl) hab)
  refine PW.perm [1, 0] rfl ?_
  exact cut_12 (aN A + 1) 0 v1_11 _ (by omega) (by omega) e1_11 kp_0
