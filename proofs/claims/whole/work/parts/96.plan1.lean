set_option maxHeartbeats 4000000 in
set_option maxRecDepth 100000 in
theorem c_X3_keepMargins {sh : Sh} {I : IM} {L : LM} {R : RM} (hP : PlanF sh R 61) (hl1 : R 61 2 = some 1) (hL : LineF sh R 1) (hQ : RestF sh R 45) {n : Nat} (hn : I 1 0 = nI n) (h4 : n ≤ 4) {s : Nat → Bool} {q : Nat → Nat} {hh w : Nat → Rat} {F : Rat} (hq : incN q n) (hS : RestS I L 45 n s q hh w F) (h2 : 2 ≤ cntS s n) {j K fr : Nat} {sv fv : Int32} (hj : px_ix sv 11 j) (hK : K = 66 ∨ K = 67) (hKs : sh[K]? = some (.inr (.long, 176))) (ef : fv = nI fr) (hfr : fr + n ≤ 176) : PMet M_X3_keepMargins [.ref 61, .ref 45, .int sv, .ref K, .int fv] sh I L R (kmP sh I L R j K fr n s (mgQ s q hh w F n)) := by
  refine PMet.of mf_X3_keepMargins (Nat.le_of_ble_eq_true rfl) ?_
  intro X h hr hml
  have hml : (xc X).maxLocals = 6 := hml
  have h : PXok X RX3 cX3_keepMargins 4 0 0 := h
  have hr : PXr X none "keepMargins" _ 0 0 := hr
  have hP0 := hP
  obtain ⟨p0, p1, p2, p3, p4, p5, p6, p7, p8, p9, r1, r7, r8, r9, r10, r11, r12, r13, r14⟩ := id hP
  obtain ⟨f0, f1, f2, f3, f4, f5, g1, g2, g3, g4, g5⟩ := id hL
  have hQ0 := hQ
  obtain ⟨q0, q1, hB45, q13, q14, q15, u2r, u3r, u4r⟩ := id hQ
  have k46 := hB45.1
  show PW X 0 [(0, .ref 61), (1, .ref 45), (2, .int sv), (3, .ref K), (4, .int fv)] [] sh I L R 0 0
  refine pw_aload_n h 0 d_X3_keepMargins_0 rfl ?_
  refine pw_getR (j := 64) 3 h d_X3_keepMargins_1 fd_RX3_39 (by assumption) rfl (by assumption) ?_
  refine pw_iload_n h 2 d_X3_keepMargins_4 rfl ?_
  refine pw_iconst (x := 0) h d_X3_keepMargins_5 (by decide) ?_
  refine pw_iast h d_X3_keepMargins_6 (by assumption) (by assumption) ?_
  refine pw_aload_n h 0 d_X3_keepMargins_7 rfl ?_
  refine pw_getR (j := 65) 3 h d_X3_keepMargins_8 fd_RX3_42 (by assumption) rfl (by assumption) ?_
  refine pw_iload_n h 2 d_X3_keepMargins_11 rfl ?_
  refine pw_aload_n h 1 d_X3_keepMargins_12 rfl ?_
  refine pw_getR (j := 46) 5 h d_X3_keepMargins_13 fd_RX3_102 (by assumption) rfl (by assumption) ?_
  refine pw_getL 0 h d_X3_keepMargins_16 fd_RX3_106 (by assumption) rfl ?_
  refine pw_last h d_X3_keepMargins_19 (by assumption) (by assumption) ?_
  refine pw_iconst (x := 0) h d_X3_keepMargins_20 (by decide) ?_
  refine pw_nmI (fun v5_21 e5_21 => ?_)
  refine pw_istore (lv' := [(5, .int v5_21), (0, .ref 61), (1, .ref 45), (2, .int sv), (3, .ref K), (4, .int fv)]) h d_X3_keepMargins_21 _ hml (by decide) rfl ?_
  have cut_23 : ∀ (N i : Nat) (y : Int32) (I2 : IM) (L2 : LM), n < i + N → i ≤ n → y = nI i → kmS I I2 L L2 j K fr i s (mgQ s q hh w F n) → PW X 23 [(0, .ref 61), (1, .ref 45), (2, .int sv), (3, .ref K), (4, .int fv), (5, .int y)] [] sh I2 L2 R 0 0 := by
    intro N
    induction N with
    | zero => intros; omega
    | succ N ih =>
      intro i y I2 L2 hN hi ei hk
      refine pw_iload h 5 d_X3_keepMargins_23 rfl ?_
      refine pw_aload_n h 0 d_X3_keepMargins_25 rfl ?_
      refine pw_getR (j := 1) 3 h d_X3_keepMargins_26 fd_RX3_19 (by assumption) rfl (by assumption) ?_
      refine pw_getI 2 h d_X3_keepMargins_29 fd_RX3_61 (by assumption) rfl ?_
      refine pw_icmp_ge 76 h d_X3_keepMargins_32 (by decide) (fun c_32 => ?_) (fun c_32 => ?_)
      · skip
        have hge := k_ge ei (n := n) (by rw [hk.2.1 _ _ (Or.inl (by decide))]; exact hn) (by omega) (by omega) c_32
        have e : i = n := by omega
        rw [e] at hk
        refine pw_vret h hr d_X3_keepMargins_76 (by decide) (by decide) ?_
        exact ⟨rfl, rfl, rfl, hk⟩
      · skip
        have hlt := k_lt ei (n := n) (by rw [hk.2.1 _ _ (Or.inl (by decide))]; exact hn) (by omega) (by omega) c_32
        have hx := k_ix ei (show i < 7 by omega) (by decide)
        have hS2 := km_rest hK hk hS
        have hxk : px_ix (fv + y) 176 (fr + i) := by rw [ef, ei, nI_add]; exact px_ix_nI (by omega) (by decide)
        have hmr := mg_RI hq (by omega) hS2 h2 hlt
        refine pw_aload_n h 3 d_X3_keepMargins_35 rfl ?_
        refine pw_iload h 4 d_X3_keepMargins_36 rfl ?_
        refine pw_iload h 5 d_X3_keepMargins_38 rfl ?_
        refine pw_iadd h d_X3_keepMargins_40 ?_
        refine pw_aload_n h 1 d_X3_keepMargins_41 rfl ?_
        refine pw_iload h 5 d_X3_keepMargins_42 rfl ?_
        refine pw_callV (As := [.int _]) h d_X3_keepMargins_44 mf_X5_marginOf mi_X5_marginOf ml_RX3_111 ⟨by decide, by decide, by decide⟩ (by assumption) rfl rfl (Nat.le_of_ble_eq_true rfl) trivial (c_X5_marginOf hQ0 hx (rs_seat2 hq (by omega) hS2 i hlt) hS2.2.1 (by have := cntS_le (s := s) n; omega) (k_ix (hS2.1.2.1 i hlt) (hq.1 i hlt) (by decide)) (rs_p2 hq (by omega) hS2 h2 (i := 0) (by omega)) (rs_p2 hq (by omega) hS2 h2 (i := 1) (by omega))) ?_
        refine PKk.ret ?_
        refine pw_last h d_X3_keepMargins_47 (by assumption) hxk ?_
        refine pw_aload_n h 1 d_X3_keepMargins_48 rfl ?_
        refine pw_iload h 5 d_X3_keepMargins_49 rfl ?_
        refine pw_callV (As := [.int _]) h d_X3_keepMargins_51 mf_X5_isMember mi_X5_isMember ml_RX3_115 ⟨by decide, by decide, by decide⟩ (by assumption) rfl rfl (Nat.le_of_ble_eq_true rfl) trivial (c_X5_isMember hQ0 hx) ?_
        refine PKk.ret ?_
        refine pw_if_eq 70 h d_X3_keepMargins_54 (by decide) (fun c_54 => ?_) (fun c_54 => ?_)
        · skip
          rw [bI_1] at c_54
          have hsi : s i = false := seat_no (by omega) hS2 hlt c_54
          have hk1 := km_s0 hK hk hsi hmr
          obtain ⟨v5_70, e5_70⟩ : ∃ z : Int32, z = y + (1) := ⟨_, rfl⟩
          refine pw_iinc (lv' := [(5, .int v5_70), (0, .ref 61), (1, .ref 45), (2, .int sv), (3, .ref K), (4, .int fv)]) v5_70 h d_X3_keepMargins_70 5 rfl e5_70.symm _ hml (by decide) rfl ?_
          refine pw_goto 23 h d_X3_keepMargins_73 (by decide) ?_
          refine PW.perm [1, 2, 3, 4, 5, 0] rfl ?_
          exact ih (i + 1) v5_70 _ _ (by omega) (by omega) (k_up e5_70 ei) hk1
        · skip
          rw [bI_1, Bool.not_eq_false] at c_54
          have hsi : s i = true := seat_yes hS2 hlt c_54
          have hk1 := km_s1 hK hk hsi hmr ei
          refine pw_aload_n h 0 d_X3_keepMargins_57 rfl ?_
          refine pw_getR (j := 64) 3 h d_X3_keepMargins_58 fd_RX3_39 (by assumption) rfl (by assumption) ?_
          refine pw_iload_n h 2 d_X3_keepMargins_61 rfl ?_
          refine pw_dup2RI h d_X3_keepMargins_62 ?_
          refine pw_iald h d_X3_keepMargins_63 (by assumption) (by assumption) ?_
          refine pw_iconst (x := 1) h d_X3_keepMargins_64 (by decide) ?_
          refine pw_iload h 5 d_X3_keepMargins_65 rfl ?_
          refine pw_ishl h d_X3_keepMargins_67 ?_
          refine pw_ior h d_X3_keepMargins_68 ?_
          refine pw_iast h d_X3_keepMargins_69 (by assumption) (by assumption) ?_
          obtain ⟨v5_70, e5_70⟩ : ∃ z : Int32, z = y + (1) := ⟨_, rfl⟩
          refine pw_iinc (lv' := [(5, .int v5_70), (0, .ref 61), (1, .ref 45), (2, .int sv), (3, .ref K), (4, .int fv)]) v5_70 h d_X3_keepMargins_70 5 rfl e5_70.symm _ hml (by decide) rfl ?_
          refine pw_goto 23 h d_X3_keepMargins_73 (by decide) ?_
          refine PW.perm [1, 2, 3, 4, 5, 0] rfl ?_
          exact ih (i + 1) v5_70 _ _ (by omega) (by omega) (k_up e5_70 ei) hk1
  refine PW.perm [1, 2, 3, 4, 5, 0] rfl ?_
  exact cut_23 (n + 1) 0 v5_21 _ _ (by omega) (by omega) e5_21 (km_0 hK)
