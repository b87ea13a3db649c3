set_option maxHeartbeats 4000000 in
set_option maxRecDepth 100000 in
theorem c_X7_type {sh : Sh} {I : IM} {L : LM} {R : RM} (hC : ClassF sh R) {T : Nat} (hT : I 0 3 = nI T) (hT2 : T ≤ 120) (w : Int64) (n : Int32) : PMet M_X7_type [.ref 0, .long w, .int n] sh I L R (pIf (isW n 1 8) (pIf (allB (fun k => isW (byI w k) 32 126) n.toNatClampNeg) (pIf (decide (T + n.toNatClampNeg ≤ 120)) (pRet (some (.int (nI (T + n.toNatClampNeg)))) sh (tapI I 12 0 3 T w n.toNatClampNeg n.toNatClampNeg) L R) (pRet (some (.int (-3))) sh I L R)) (pRet (some (.int (-1))) sh I L R)) (pRet (some (.int (-1))) sh I L R)) := by
  refine PMet.of mf_X7_type (Nat.le_of_ble_eq_true rfl) ?_
  intro X h hr hml
  have hml : (xc X).maxLocals = 5 := hml
  have h : PXok X RX7 cX7_type 2 0 0 := h
  have hr : PXr X (some .int) "type" _ 0 0 := hr
  have hC0 := hC
  obtain ⟨k0, r0, r1, r2, r4, r5, r6, r7, r8, r13, r15, r16, hL, k7, r7s, k8s, k12, k20, r20s, hSs, k71, k72⟩ := hC
  have hL0 := hL
  obtain ⟨f0, f1, f2, f3, f4, f5, g1, g2, g3, g4, g5⟩ := hL
  show PW X 0 [(0, .ref 0), (1, .long w), (3, .int n)] [] sh I L R 0 0
  refine pw_iload_n h 2 d_X7_type_0 rfl ?_
  refine pw_iconst (x := 1) h d_X7_type_1 (by decide) ?_
  refine pw_bipush (x := 8) h d_X7_type_2 (by decide) ?_
  refine pw_callS (As := [.int _, .int _, .int _]) h d_X7_type_4 mf_X7_isWithin st_yX7_isWithin ml_RX7_97 ⟨by decide, by decide, by decide⟩ rfl rfl (Nat.le_of_ble_eq_true rfl) c_X7_isWithin ?_
  refine PKk.ret ?_
  refine pw_if_ne 12 h d_X7_type_7 (by decide) (fun c_7 => ?_) (fun c_7 => ?_)
  · skip
    rw [bI_1, Bool.not_eq_false] at c_7
    have hnb := k_isW (c := 1) (d := 8) c_7 rfl rfl
    have kn := k_nn (z := n) (by omega)
    have env := k_nv (n := n) (by omega)
    refine pw_iconst (x := 0) h d_X7_type_12 (by decide) ?_
    refine pw_nmI (fun v4_13 e4_13 => ?_)
    refine pw_istore (lv' := [(4, .int v4_13), (0, .ref 0), (1, .long w), (3, .int n)]) h d_X7_type_13 _ hml (by decide) rfl ?_
    have cut_15 : ∀ (N k : Nat) (v : Int32), n.toNatClampNeg < k + N → k ≤ n.toNatClampNeg → v = nI k → allB (fun k => isW (byI w k) 32 126) k = true → PW X 15 [(0, .ref 0), (1, .long w), (3, .int n), (4, .int v)] [] sh I L R 0 0 := by
      intro N
      induction N with
      | zero => intros; omega
      | succ N ih =>
        intro k v hN hi ev hal
        refine pw_iload h 3 d_X7_type_15 rfl ?_
        refine pw_iload_n h 2 d_X7_type_17 rfl ?_
        refine pw_icmp_ge 45 h d_X7_type_18 (by decide) (fun c_18 => ?_) (fun c_18 => ?_)
        · skip
          have hge := k_ge ev env (by omega) (by omega) c_18
          have ek : k = n.toNatClampNeg := by omega
          subst ek
          refine pw_aload_n h 0 d_X7_type_45 rfl ?_
          refine pw_getI 7 h d_X7_type_46 fd_RX7_25 (by assumption) rfl ?_
          refine pw_iload_n h 2 d_X7_type_49 rfl ?_
          refine pw_iadd h d_X7_type_50 ?_
          refine pw_bipush (x := 120) h d_X7_type_51 (by decide) ?_
          refine pw_icmp_le 59 h d_X7_type_53 (by decide) (fun c_53 => ?_) (fun c_53 => ?_)
          · skip
            rw [hT, env, nI_add] at c_53
            have hfit : T + n.toNatClampNeg ≤ 120 := k_ge (n := T + n.toNatClampNeg) (i := 120) rfl rfl (by omega) (by omega) c_53
            refine pw_iload_n h 2 d_X7_type_59 rfl ?_
            refine pw_iconst (x := 1) h d_X7_type_60 (by decide) ?_
            refine pw_isub h d_X7_type_61 ?_
            refine pw_nmI (fun v4_62 e4_62 => ?_)
            refine pw_istore (lv' := [(4, .int v4_62), (0, .ref 0), (1, .long w), (3, .int n)]) h d_X7_type_62 _ hml (by decide) rfl ?_
            have cut_64 : ∀ (N r : Nat) (v : Int32), n.toNatClampNeg < r + N → r ≤ n.toNatClampNeg → (r < n.toNatClampNeg → v = nI (n.toNatClampNeg - 1 - r)) → (r = n.toNatClampNeg → v = -1) → PW X 64 [(0, .ref 0), (1, .long w), (3, .int n), (4, .int v)] [] sh (tapI I 12 0 3 T w n.toNatClampNeg r) L R 0 0 := by
              intro N
              induction N with
              | zero => intros; omega
              | succ N ih =>
                intro r v hN hi ev1 ev2
                refine pw_iload h 3 d_X7_type_64 rfl ?_
                refine pw_if_lt 101 h d_X7_type_66 (by decide) (fun c_66 => ?_) (fun c_66 => ?_)
                · skip
                  have hk0 : r = n.toNatClampNeg := by rcases Nat.lt_or_ge r n.toNatClampNeg with q | q; exact absurd c_66 (k_neg (ev1 q) (by omega)); omega
                  subst hk0
                  refine pw_aload_n h 0 d_X7_type_101 rfl ?_
                  refine pw_getI 7 h d_X7_type_102 fd_RX7_25 (by assumption) rfl ?_
                  refine pw_iret h hr d_X7_type_105 rfl (by decide) (by decide) ?_
                  rw [tapI_n]
                  exact pIf_t c_7 (pIf_t hal (pIf_t (decide_eq_true hfit) pRet_self))
                · skip
                  have hk0 : r < n.toNatClampNeg := by rcases Nat.lt_or_ge r n.toNatClampNeg with q | q; exact q; exact absurd (by rw [ev2 (by omega)]; decide) c_66
                  have ev : v = nI (n.toNatClampNeg - 1 - r) := ev1 hk0
                  have hxr : px_ix (nI (T + r)) 120 (T + r) := px_ix_nI (by omega) (by decide)
                  refine pw_aload_n h 0 d_X7_type_69 rfl ?_
                  refine pw_getR (j := 12) 7 h d_X7_type_70 fd_RX7_21 (by assumption) rfl (by assumption) ?_
                  refine pw_aload_n h 0 d_X7_type_73 rfl ?_
                  refine pw_getI 7 h d_X7_type_74 fd_RX7_25 (by assumption) rfl ?_
                  rw [tapI_n]
                  refine pw_lload_n h 1 d_X7_type_77 rfl ?_
                  refine pw_iload h 3 d_X7_type_78 rfl ?_
                  refine pw_callS (As := [.long _, .int _]) h d_X7_type_80 mf_X7_byteOf st_yX7_byteOf ml_RX7_151 ⟨by decide, by decide, by decide⟩ rfl rfl (Nat.le_of_ble_eq_true rfl) c_X7_byteOf ?_
                  refine PKk.ret ?_
                  refine pw_eqI (y := byI w (n.toNatClampNeg - 1 - r)) (by rw [ev]; rfl) ?_
                  refine pw_i2b h d_X7_type_83 ?_
                  refine pw_bast h d_X7_type_84 (by assumption) (by assumption) ?_
                  refine pw_aload_n h 0 d_X7_type_85 rfl ?_
                  refine pw_dupR h d_X7_type_86 ?_
                  refine pw_getI 7 h d_X7_type_87 fd_RX7_25 (by assumption) rfl ?_
                  refine pw_iconst (x := 1) h d_X7_type_90 (by decide) ?_
                  refine pw_iadd h d_X7_type_91 ?_
                  refine pw_putI 7 h d_X7_type_92 fd_RX7_25 (by assumption) rfl rfl rfl rfl ?_
                  obtain ⟨v4_95, e4_95⟩ : ∃ z : Int32, z = v + (-1) := ⟨_, rfl⟩
                  refine pw_iinc (lv' := [(4, .int v4_95), (0, .ref 0), (1, .long w), (3, .int n)]) v4_95 h d_X7_type_95 3 rfl e4_95.symm _ hml (by decide) rfl ?_
                  refine pw_goto 64 h d_X7_type_98 (by decide) ?_
                  refine PW.perm [1, 2, 3, 0] rfl ?_
                  refine pw_mem ?_ rfl rfl (ih (r + 1) v4_95 (by omega) (by omega) (fun q => by rw [e4_95, show n.toNatClampNeg - 1 - (r + 1) = n.toNatClampNeg - 1 - r - 1 by omega]; exact k_dn rfl ev (by omega)) (fun q => by rw [e4_95, ev, show n.toNatClampNeg - 1 - r = 0 by omega]; rfl))
                  rw [u2_n1 (by decide), tapI_n, vp_nar_byte]
                  have hb := allB_t hal (n.toNatClampNeg - 1 - r) (by omega)
                  have hb2 := k_isW (c := 32) (d := 126) hb rfl rfl
                  have hb3 := byte_keep (x := byI w (n.toNatClampNeg - 1 - r)) (by omega) (by omega)
                  exact tapI_s (by decide) (by show (byI w (n.toNatClampNeg - 1 - r)).toInt8.toInt32.toInt8.toInt32 = _; rw [hb3, hb3])
            refine PW.perm [1, 2, 3, 0] rfl ?_
            refine pw_mem (tapI_0 hT) rfl rfl (cut_64 (n.toNatClampNeg + 1) 0 v4_62 (by omega) (by omega) (fun _ => by rw [e4_62]; exact k_dn1 env (by omega)) (fun q => by omega))
          · skip
            rw [hT, env, nI_add] at c_53
            have hfit : decide (T + n.toNatClampNeg ≤ 120) = false := decide_eq_false (fun q => c_53 (nI_le (a := T + n.toNatClampNeg) (b := 120) q (by omega)))
            refine pw_bipush (x := (-3)) h d_X7_type_56 (by decide) ?_
            refine pw_iret h hr d_X7_type_58 rfl (by decide) (by decide) ?_
            exact pIf_t c_7 (pIf_t hal (pIf_f hfit pRet_self))
        · skip
          have hlt := k_lt ev env (by omega) (by omega) c_18
          refine pw_lload_n h 1 d_X7_type_21 rfl ?_
          refine pw_iload h 3 d_X7_type_22 rfl ?_
          refine pw_callS (As := [.long _, .int _]) h d_X7_type_24 mf_X7_byteOf st_yX7_byteOf ml_RX7_151 ⟨by decide, by decide, by decide⟩ rfl rfl (Nat.le_of_ble_eq_true rfl) c_X7_byteOf ?_
          refine PKk.ret ?_
          refine pw_eqI (y := byI w k) (by rw [ev]; rfl) ?_
          refine pw_bipush (x := 32) h d_X7_type_27 (by decide) ?_
          refine pw_bipush (x := 126) h d_X7_type_29 (by decide) ?_
          refine pw_callS (As := [.int _, .int _, .int _]) h d_X7_type_31 mf_X7_isWithin st_yX7_isWithin ml_RX7_97 ⟨by decide, by decide, by decide⟩ rfl rfl (Nat.le_of_ble_eq_true rfl) c_X7_isWithin ?_
          refine PKk.ret ?_
          refine pw_if_ne 39 h d_X7_type_34 (by decide) (fun c_34 => ?_) (fun c_34 => ?_)
          · skip
            rw [bI_1, Bool.not_eq_false] at c_34
            obtain ⟨v4_39, e4_39⟩ : ∃ z : Int32, z = v + (1) := ⟨_, rfl⟩
            refine pw_iinc (lv' := [(4, .int v4_39), (0, .ref 0), (1, .long w), (3, .int n)]) v4_39 h d_X7_type_39 3 rfl e4_39.symm _ hml (by decide) rfl ?_
            refine pw_goto 15 h d_X7_type_42 (by decide) ?_
            refine PW.perm [1, 2, 3, 0] rfl ?_
            exact ih (k + 1) v4_39 (by omega) (by omega) (k_up e4_39 ev) (by simp only [allB, hal, Bool.true_and]; exact c_34)
          · skip
            rw [bI_1] at c_34
            refine pw_iconst (x := (-1)) h d_X7_type_37 (by decide) ?_
            refine pw_iret h hr d_X7_type_38 rfl (by decide) (by decide) ?_
            exact pIf_t c_7 (pIf_f (allB_f (g := fun k => isW (byI w k) 32 126) c_34 _ hlt) pRet_self)
    refine PW.perm [1, 2, 3, 0] rfl ?_
    exact cut_15 (n.toNatClampNeg + 1) 0 v4_13 (by omega) (by omega) e4_13 rfl
  · skip
    rw [bI_1] at c_7
    refine pw_iconst (x := (-1)) h d_X7_type_10 (by decide) ?_
    refine pw_iret h hr d_X7_type_11 rfl (by decide) (by decide) ?_
    exact pIf_f c_7 pRet_self

set_option maxHeartbeats 4000000 in
set_option maxRecDepth 100000 in
theorem c_X8_type {sh : Sh} {I : IM} {L : LM} {R : RM} {m : Nat} (hM : ModF sh R m) {T : Nat} (hT : I m 9 = nI T) (hT2 : T ≤ 120) (w : Int64) (n : Int32) : PMet M_X8_type [.ref m, .long w, .int n] sh I L R (pIf (isW n 1 8) (pIf (allB (fun k => isW (byI w k) 32 126) n.toNatClampNeg) (pIf (decide (T + n.toNatClampNeg ≤ 120)) (pRet (some (.int (nI (T + n.toNatClampNeg)))) sh (tapI I (m + 7) m 9 T w n.toNatClampNeg n.toNatClampNeg) L R) (pRet (some (.int (-3))) sh I L R)) (pRet (some (.int (-1))) sh I L R)) (pRet (some (.int (-1))) sh I L R)) := by
  refine PMet.of mf_X8_type (Nat.le_of_ble_eq_true rfl) ?_
  intro X h hr hml
  have hml : (xc X).maxLocals = 5 := hml
  have h : PXok X RX8 cX8_type 2 0 0 := h
  have hr : PXr X (some .int) "type" _ 0 0 := hr
  have hM0 := hM
  obtain ⟨f0, f1, f2, f3, f4, f5, f6, f7, f8, f9, f10, f11, f12, f13, f14, f15, f16, f17, f18, f19, f20, f21, f22, f23, f24, f25, f26, f27, g1, g2, g3, g4, g5, g6, g7, g8, g9, g10, g11, g12, g13, g14, g15, g16, g17, g18, g19, g20, g21, g22, g23, g24, g25, g26, g27⟩ := hM
  show PW X 0 [(0, .ref m), (1, .long w), (3, .int n)] [] sh I L R 0 0
  refine pw_iload_n h 2 d_X8_type_0 rfl ?_
  refine pw_i2l h d_X8_type_1 ?_
  refine pw_lconst (x := 1) h d_X8_type_2 (by decide) ?_
  refine pw_ldc2 h d_X8_type_3 ck_RX8_152 ?_
  refine pw_callS (As := [.long _, .long _, .long _]) h d_X8_type_6 mf_X8_in st_yX8_in ml_RX8_105 ⟨by decide, by decide, by decide⟩ rfl rfl (Nat.le_of_ble_eq_true rfl) (c_X8_inW (a := 1) (b := 8) rfl rfl) ?_
  refine PKk.ret ?_
  refine pw_if_ne 14 h d_X8_type_9 (by decide) (fun c_9 => ?_) (fun c_9 => ?_)
  · skip
    rw [bI_1, Bool.not_eq_false] at c_9
    have hnb := k_isW (c := 1) (d := 8) c_9 rfl rfl
    have kn := k_nn (z := n) (by omega)
    have env := k_nv (n := n) (by omega)
    refine pw_iconst (x := 0) h d_X8_type_14 (by decide) ?_
    refine pw_nmI (fun v4_15 e4_15 => ?_)
    refine pw_istore (lv' := [(4, .int v4_15), (0, .ref m), (1, .long w), (3, .int n)]) h d_X8_type_15 _ hml (by decide) rfl ?_
    have cut_17 : ∀ (N k : Nat) (v : Int32), n.toNatClampNeg < k + N → k ≤ n.toNatClampNeg → v = nI k → allB (fun k => isW (byI w k) 32 126) k = true → PW X 17 [(0, .ref m), (1, .long w), (3, .int n), (4, .int v)] [] sh I L R 0 0 := by
      intro N
      induction N with
      | zero => intros; omega
      | succ N ih =>
        intro k v hN hi ev hal
        refine pw_iload h 3 d_X8_type_17 rfl ?_
        refine pw_iload_n h 2 d_X8_type_19 rfl ?_
        refine pw_icmp_ge 54 h d_X8_type_20 (by decide) (fun c_20 => ?_) (fun c_20 => ?_)
        · skip
          have hge := k_ge ev env (by omega) (by omega) c_20
          have ek : k = n.toNatClampNeg := by omega
          subst ek
          refine pw_aload_n h 0 d_X8_type_54 rfl ?_
          refine pw_getI 8 h d_X8_type_55 fd_RX8_160 (by assumption) rfl ?_
          refine pw_iload_n h 2 d_X8_type_58 rfl ?_
          refine pw_iadd h d_X8_type_59 ?_
          refine pw_bipush (x := 120) h d_X8_type_60 (by decide) ?_
          refine pw_icmp_le 68 h d_X8_type_62 (by decide) (fun c_62 => ?_) (fun c_62 => ?_)
          · skip
            rw [hT, env, nI_add] at c_62
            have hfit : T + n.toNatClampNeg ≤ 120 := k_ge (n := T + n.toNatClampNeg) (i := 120) rfl rfl (by omega) (by omega) c_62
            refine pw_iload_n h 2 d_X8_type_68 rfl ?_
            refine pw_iconst (x := 1) h d_X8_type_69 (by decide) ?_
            refine pw_isub h d_X8_type_70 ?_
            refine pw_nmI (fun v4_71 e4_71 => ?_)
            refine pw_istore (lv' := [(4, .int v4_71), (0, .ref m), (1, .long w), (3, .int n)]) h d_X8_type_71 _ hml (by decide) rfl ?_
            have cut_73 : ∀ (N r : Nat) (v : Int32), n.toNatClampNeg < r + N → r ≤ n.toNatClampNeg → (r < n.toNatClampNeg → v = nI (n.toNatClampNeg - 1 - r)) → (r = n.toNatClampNeg → v = -1) → PW X 73 [(0, .ref m), (1, .long w), (3, .int n), (4, .int v)] [] sh (tapI I (m + 7) m 9 T w n.toNatClampNeg r) L R 0 0 := by
              intro N
              induction N with
              | zero => intros; omega
              | succ N ih =>
                intro r v hN hi ev1 ev2
                refine pw_iload h 3 d_X8_type_73 rfl ?_
                refine pw_if_lt 115 h d_X8_type_75 (by decide) (fun c_75 => ?_) (fun c_75 => ?_)
                · skip
                  have hk0 : r = n.toNatClampNeg := by rcases Nat.lt_or_ge r n.toNatClampNeg with q | q; exact absurd c_75 (k_neg (ev1 q) (by omega)); omega
                  subst hk0
                  refine pw_aload_n h 0 d_X8_type_115 rfl ?_
                  refine pw_getI 8 h d_X8_type_116 fd_RX8_160 (by assumption) rfl ?_
                  refine pw_iret h hr d_X8_type_119 rfl (by decide) (by decide) ?_
                  rw [tapI_n]
                  exact pIf_t c_9 (pIf_t hal (pIf_t (decide_eq_true hfit) pRet_self))
                · skip
                  have hk0 : r < n.toNatClampNeg := by rcases Nat.lt_or_ge r n.toNatClampNeg with q | q; exact q; exact absurd (by rw [ev2 (by omega)]; decide) c_75
                  have ev : v = nI (n.toNatClampNeg - 1 - r) := ev1 hk0
                  have hxr : px_ix (nI (T + r)) 120 (T + r) := px_ix_nI (by omega) (by decide)
                  refine pw_aload_n h 0 d_X8_type_78 rfl ?_
                  refine pw_getR (j := (m + 7)) 8 h d_X8_type_79 fd_RX8_32 (by assumption) rfl (by assumption) ?_
                  refine pw_aload_n h 0 d_X8_type_82 rfl ?_
                  refine pw_getI 8 h d_X8_type_83 fd_RX8_160 (by assumption) rfl ?_
                  rw [tapI_n]
                  refine pw_lload_n h 1 d_X8_type_86 rfl ?_
                  refine pw_bipush (x := 8) h d_X8_type_87 (by decide) ?_
                  refine pw_iload h 3 d_X8_type_89 rfl ?_
                  refine pw_imul h d_X8_type_91 ?_
                  refine pw_lshr h d_X8_type_92 ?_
                  refine pw_ldc2 h d_X8_type_93 ck_RX8_154 ?_
                  refine pw_land h d_X8_type_96 ?_
                  refine pw_l2i h d_X8_type_97 ?_
                  refine pw_iast h d_X8_type_98 (by assumption) (by assumption) ?_
                  refine pw_aload_n h 0 d_X8_type_99 rfl ?_
                  refine pw_dupR h d_X8_type_100 ?_
                  refine pw_getI 8 h d_X8_type_101 fd_RX8_160 (by assumption) rfl ?_
                  refine pw_iconst (x := 1) h d_X8_type_104 (by decide) ?_
                  refine pw_iadd h d_X8_type_105 ?_
                  refine pw_putI 8 h d_X8_type_106 fd_RX8_160 (by assumption) rfl rfl rfl rfl ?_
                  obtain ⟨v4_109, e4_109⟩ : ∃ z : Int32, z = v + (-1) := ⟨_, rfl⟩
                  refine pw_iinc (lv' := [(4, .int v4_109), (0, .ref m), (1, .long w), (3, .int n)]) v4_109 h d_X8_type_109 3 rfl e4_109.symm _ hml (by decide) rfl ?_
                  refine pw_goto 73 h d_X8_type_112 (by decide) ?_
                  refine PW.perm [1, 2, 3, 0] rfl ?_
                  refine pw_mem ?_ rfl rfl (ih (r + 1) v4_109 (by omega) (by omega) (fun q => by rw [e4_109, show n.toNatClampNeg - 1 - (r + 1) = n.toNatClampNeg - 1 - r - 1 by omega]; exact k_dn rfl ev (by omega)) (fun q => by rw [e4_109, ev, show n.toNatClampNeg - 1 - r = 0 by omega]; rfl))
                  rw [u2_n1 (by omega), tapI_n]
                  exact tapI_s (by omega) (by rw [ev]; rfl)
            refine PW.perm [1, 2, 3, 0] rfl ?_
            refine pw_mem (tapI_0 hT) rfl rfl (cut_73 (n.toNatClampNeg + 1) 0 v4_71 (by omega) (by omega) (fun _ => by rw [e4_71]; exact k_dn1 env (by omega)) (fun q => by omega))
          · skip
            rw [hT, env, nI_add] at c_62
            have hfit : decide (T + n.toNatClampNeg ≤ 120) = false := decide_eq_false (fun q => c_62 (nI_le (a := T + n.toNatClampNeg) (b := 120) q (by omega)))
            refine pw_bipush (x := (-3)) h d_X8_type_65 (by decide) ?_
            refine pw_iret h hr d_X8_type_67 rfl (by decide) (by decide) ?_
            exact pIf_t c_9 (pIf_t hal (pIf_f hfit pRet_self))
        · skip
          have hlt := k_lt ev env (by omega) (by omega) c_20
          refine pw_lload_n h 1 d_X8_type_23 rfl ?_
          refine pw_bipush (x := 8) h d_X8_type_24 (by decide) ?_
          refine pw_iload h 3 d_X8_type_26 rfl ?_
          refine pw_imul h d_X8_type_28 ?_
          refine pw_lshr h d_X8_type_29 ?_
          refine pw_ldc2 h d_X8_type_30 ck_RX8_154 ?_
          refine pw_land h d_X8_type_33 ?_
          refine pw_ldc2 h d_X8_type_34 ck_RX8_156 ?_
          refine pw_ldc2 h d_X8_type_37 ck_RX8_158 ?_
          refine pw_callS (As := [.long _, .long _, .long _]) h d_X8_type_40 mf_X8_in st_yX8_in ml_RX8_105 ⟨by decide, by decide, by decide⟩ rfl rfl (Nat.le_of_ble_eq_true rfl) c_X8_in ?_
          refine PKk.ret ?_
          refine pw_if_ne 48 h d_X8_type_43 (by decide) (fun c_43 => ?_) (fun c_43 => ?_)
          · skip
            rw [bI_1, Bool.not_eq_false] at c_43
            have hbk : isW (byI w k) 32 126 = true := by rw [ev] at c_43; rw [← c_43]; unfold isW isWL; rw [byI_toInt]; rfl
            obtain ⟨v4_48, e4_48⟩ : ∃ z : Int32, z = v + (1) := ⟨_, rfl⟩
            refine pw_iinc (lv' := [(4, .int v4_48), (0, .ref m), (1, .long w), (3, .int n)]) v4_48 h d_X8_type_48 3 rfl e4_48.symm _ hml (by decide) rfl ?_
            refine pw_goto 17 h d_X8_type_51 (by decide) ?_
            refine PW.perm [1, 2, 3, 0] rfl ?_
            exact ih (k + 1) v4_48 (by omega) (by omega) (k_up e4_48 ev) (by simp only [allB, hal, Bool.true_and]; exact hbk)
          · skip
            rw [bI_1] at c_43
            have hbk : isW (byI w k) 32 126 = false := by rw [ev] at c_43; rw [← c_43]; unfold isW isWL; rw [byI_toInt]; rfl
            refine pw_iconst (x := (-1)) h d_X8_type_46 (by decide) ?_
            refine pw_iret h hr d_X8_type_47 rfl (by decide) (by decide) ?_
            exact pIf_t c_9 (pIf_f (allB_f (g := fun k => isW (byI w k) 32 126) hbk _ hlt) pRet_self)
    refine PW.perm [1, 2, 3, 0] rfl ?_
    exact cut_17 (n.toNatClampNeg + 1) 0 v4_15 (by omega) (by omega) e4_15 rfl
  · skip
    rw [bI_1] at c_9
    refine pw_iconst (x := (-1)) h d_X8_type_12 (by decide) ?_
    refine pw_iret h hr d_X8_type_13 rfl (by decide) (by decide) ?_
    exact pIf_f c_9 pRet_self
