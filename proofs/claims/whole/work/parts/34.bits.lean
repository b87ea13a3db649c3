set_option maxHeartbeats 4000000 in
set_option maxRecDepth 100000 in
theorem c_J6_bitCount_0f7a4 {x : Int32} {sh : Sh} {I : IM} {L : LM} {R : RM} : PMet M_J6_bitCount_0f7a4 [.int x] sh I L R (pRet (some (.int (bcI x))) sh I L R) := by
  refine PMet.of mf_J6_bitCount_0f7a4 (Nat.le_of_ble_eq_true rfl) ?_
  intro X h hr hml
  have hml : (xc X).maxLocals = 1 := hml
  have h : PXok X RJ6 cJ6_bitCount_0f7a4 1 0 0 := h
  have hr : PXr X (some .int) "bitCount" _ 0 0 := hr
  show PW X 0 [(0, .int x)] [] sh I L R 0 0
  refine pw_iload_n h 0 d_J6_bitCount_0f7a4_0 rfl ?_
  refine pw_iload_n h 0 d_J6_bitCount_0f7a4_1 rfl ?_
  refine pw_iconst (x := 1) h d_J6_bitCount_0f7a4_2 (by decide) ?_
  refine pw_iushr h d_J6_bitCount_0f7a4_3 ?_
  refine pw_ldcw h d_J6_bitCount_0f7a4_4 ck_RJ6_265 ?_
  refine pw_iand h d_J6_bitCount_0f7a4_7 ?_
  refine pw_isub h d_J6_bitCount_0f7a4_8 ?_
  refine pw_nmI (fun v0_9 e0_9 => ?_)
  refine pw_istore_n (lv' := [(0, .int v0_9)]) h d_J6_bitCount_0f7a4_9 rfl _ hml (by decide) rfl ?_
  have ea : v0_9 = bcA x := e0_9
  refine pw_iload_n h 0 d_J6_bitCount_0f7a4_10 rfl ?_
  refine pw_ldcw h d_J6_bitCount_0f7a4_11 ck_RJ6_266 ?_
  refine pw_iand h d_J6_bitCount_0f7a4_14 ?_
  refine pw_iload_n h 0 d_J6_bitCount_0f7a4_15 rfl ?_
  refine pw_iconst (x := 2) h d_J6_bitCount_0f7a4_16 (by decide) ?_
  refine pw_iushr h d_J6_bitCount_0f7a4_17 ?_
  refine pw_ldcw h d_J6_bitCount_0f7a4_18 ck_RJ6_266 ?_
  refine pw_iand h d_J6_bitCount_0f7a4_21 ?_
  refine pw_iadd h d_J6_bitCount_0f7a4_22 ?_
  refine pw_nmI (fun v0_23 e0_23 => ?_)
  refine pw_istore_n (lv' := [(0, .int v0_23)]) h d_J6_bitCount_0f7a4_23 rfl _ hml (by decide) rfl ?_
  have eb : v0_23 = bcB (bcA x) := by rw [e0_23, ea]; rfl
  refine pw_iload_n h 0 d_J6_bitCount_0f7a4_24 rfl ?_
  refine pw_iload_n h 0 d_J6_bitCount_0f7a4_25 rfl ?_
  refine pw_iconst (x := 4) h d_J6_bitCount_0f7a4_26 (by decide) ?_
  refine pw_iushr h d_J6_bitCount_0f7a4_27 ?_
  refine pw_iadd h d_J6_bitCount_0f7a4_28 ?_
  refine pw_ldcw h d_J6_bitCount_0f7a4_29 ck_RJ6_267 ?_
  refine pw_iand h d_J6_bitCount_0f7a4_32 ?_
  refine pw_nmI (fun v0_33 e0_33 => ?_)
  refine pw_istore_n (lv' := [(0, .int v0_33)]) h d_J6_bitCount_0f7a4_33 rfl _ hml (by decide) rfl ?_
  have ec : v0_33 = bcC (bcB (bcA x)) := by rw [e0_33, eb]; rfl
  refine pw_iload_n h 0 d_J6_bitCount_0f7a4_34 rfl ?_
  refine pw_iload_n h 0 d_J6_bitCount_0f7a4_35 rfl ?_
  refine pw_bipush (x := 8) h d_J6_bitCount_0f7a4_36 (by decide) ?_
  refine pw_iushr h d_J6_bitCount_0f7a4_38 ?_
  refine pw_iadd h d_J6_bitCount_0f7a4_39 ?_
  refine pw_nmI (fun v0_40 e0_40 => ?_)
  refine pw_istore_n (lv' := [(0, .int v0_40)]) h d_J6_bitCount_0f7a4_40 rfl _ hml (by decide) rfl ?_
  have ed : v0_40 = bcD (bcC (bcB (bcA x))) := by rw [e0_40, ec]; rfl
  refine pw_iload_n h 0 d_J6_bitCount_0f7a4_41 rfl ?_
  refine pw_iload_n h 0 d_J6_bitCount_0f7a4_42 rfl ?_
  refine pw_bipush (x := 16) h d_J6_bitCount_0f7a4_43 (by decide) ?_
  refine pw_iushr h d_J6_bitCount_0f7a4_45 ?_
  refine pw_iadd h d_J6_bitCount_0f7a4_46 ?_
  refine pw_nmI (fun v0_47 e0_47 => ?_)
  refine pw_istore_n (lv' := [(0, .int v0_47)]) h d_J6_bitCount_0f7a4_47 rfl _ hml (by decide) rfl ?_
  have ee : v0_47 = bcE (bcD (bcC (bcB (bcA x)))) := by rw [e0_47, ed]; rfl
  refine pw_iload_n h 0 d_J6_bitCount_0f7a4_48 rfl ?_
  refine pw_bipush (x := 63) h d_J6_bitCount_0f7a4_49 (by decide) ?_
  refine pw_iand h d_J6_bitCount_0f7a4_51 ?_
  refine pw_iret h hr d_J6_bitCount_0f7a4_52 rfl (by decide) (by decide) ?_
  rw [ee]
  exact pRet_self

set_option maxHeartbeats 4000000 in
set_option maxRecDepth 100000 in
theorem c_X8_size {x : Int32} {sh : Sh} {I : IM} {L : LM} {R : RM} : PMet M_X8_size [.int x] sh I L R (pRet (some (.int (sizM x 7))) sh I L R) := by
  refine PMet.of mf_X8_size (Nat.le_of_ble_eq_true rfl) ?_
  intro X h hr hml
  have hml : (xc X).maxLocals = 3 := hml
  have h : PXok X RX8 cX8_size 1 0 0 := h
  have hr : PXr X (some .int) "size" _ 0 0 := hr
  show PW X 0 [(0, .int x)] [] sh I L R 0 0
  refine pw_iconst (x := 0) h d_X8_size_0 (by decide) ?_
  refine pw_nmI (fun v1_1 e1_1 => ?_)
  refine pw_istore_n (lv' := [(1, .int v1_1), (0, .int x)]) h d_X8_size_1 rfl _ hml (by decide) rfl ?_
  refine pw_iconst (x := 0) h d_X8_size_2 (by decide) ?_
  refine pw_nmI (fun v2_3 e2_3 => ?_)
  refine pw_istore_n (lv' := [(2, .int v2_3), (1, .int v1_1), (0, .int x)]) h d_X8_size_3 rfl _ hml (by decide) rfl ?_
  have cut_4 : ∀ (N i : Nat) (a v : Int32), 7 < i + N → i ≤ 7 → v = nI i → a = sizM x i → PW X 4 [(0, .int x), (1, .int a), (2, .int v)] [] sh I L R 0 0 := by
    intro N
    induction N with
    | zero => intros; omega
    | succ N ih =>
      intro i a v hN hi ev ea
      refine pw_iload_n h 2 d_X8_size_4 rfl ?_
      refine pw_bipush (x := 7) h d_X8_size_5 (by decide) ?_
      refine pw_icmp_ge 24 h d_X8_size_7 (by decide) (fun c_7 => ?_) (fun c_7 => ?_)
      · skip
        have hge := k_ge ev (n := 7) rfl (by omega) (by omega) c_7
        have e : i = 7 := by omega
        subst e
        refine pw_iload_n h 1 d_X8_size_24 rfl ?_
        refine pw_iret h hr d_X8_size_25 rfl (by decide) (by decide) ?_
        exact ⟨by rw [ea], rfl, rfl, rfl, rfl⟩
      · skip
        have hlt := k_lt ev (n := 7) rfl (by omega) (by omega) c_7
        refine pw_iload_n h 1 d_X8_size_10 rfl ?_
        refine pw_iload_n h 0 d_X8_size_11 rfl ?_
        refine pw_iload_n h 2 d_X8_size_12 rfl ?_
        refine pw_ishr h d_X8_size_13 ?_
        refine pw_iconst (x := 1) h d_X8_size_14 (by decide) ?_
        refine pw_iand h d_X8_size_15 ?_
        refine pw_iadd h d_X8_size_16 ?_
        refine pw_nmI (fun v1_17 e1_17 => ?_)
        refine pw_istore_n (lv' := [(1, .int v1_17), (0, .int x), (2, .int v)]) h d_X8_size_17 rfl _ hml (by decide) rfl ?_
        obtain ⟨v2_18, e2_18⟩ : ∃ z : Int32, z = v + (1) := ⟨_, rfl⟩
        refine pw_iinc (lv' := [(2, .int v2_18), (1, .int v1_17), (0, .int x)]) v2_18 h d_X8_size_18 2 rfl e2_18.symm _ hml (by decide) rfl ?_
        refine pw_goto 4 h d_X8_size_21 (by decide) ?_
        refine PW.perm [2, 1, 0] rfl ?_
        exact ih (i + 1) v1_17 v2_18 (by omega) (by omega) (k_up e2_18 ev) (by rw [e1_17, ea, ev]; rfl)
  refine PW.perm [2, 1, 0] rfl ?_
  exact cut_4 8 0 v1_1 v2_3 (by omega) (by omega) e2_3 e1_1
