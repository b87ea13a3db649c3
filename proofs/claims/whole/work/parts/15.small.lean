set_option maxHeartbeats 4000000 in
set_option maxRecDepth 100000 in
theorem c_X6_begin {sh : Sh} {I : IM} {L : LM} {R : RM} {b : Nat} (hS : SheetF sh R b) (l n : Int32) : PMet M_X6_begin [.ref b, .int l, .int n] sh I L R (pRet none sh (u1 (u2 (u2 (u2 I b 0 1) b 1 l) b 2 n) (b + 1) (fun j => if j < 13 then 0 else I (b + 1) j)) L R) := by
  refine PMet.of mf_X6_begin (Nat.le_of_ble_eq_true rfl) ?_
  intro X h hr hml
  have hml : (xc X).maxLocals = 4 := hml
  have h : PXok X RX6 cX6_begin 1 0 0 := h
  have hr : PXr X none "begin" _ 0 0 := hr
  obtain ⟨f0, f1, g1⟩ := hS
  show PW X 0 [(0, .ref b), (1, .int l), (2, .int n)] [] sh I L R 0 0
  refine pw_aload_n h 0 d_X6_begin_0 rfl ?_
  refine pw_iconst (x := 1) h d_X6_begin_1 (by decide) ?_
  refine pw_putI 6 h d_X6_begin_2 fd_RX6_9 (by assumption) rfl rfl rfl rfl ?_
  refine pw_aload_n h 0 d_X6_begin_5 rfl ?_
  refine pw_iload_n h 1 d_X6_begin_6 rfl ?_
  refine pw_putI 6 h d_X6_begin_7 fd_RX6_15 (by assumption) rfl rfl rfl rfl ?_
  refine pw_aload_n h 0 d_X6_begin_10 rfl ?_
  refine pw_iload_n h 2 d_X6_begin_11 rfl ?_
  refine pw_putI 6 h d_X6_begin_12 fd_RX6_19 (by assumption) rfl rfl rfl rfl ?_
  refine pw_iconst (x := 0) h d_X6_begin_15 (by decide) ?_
  refine pw_nmI (fun v3_16 e3_16 => ?_)
  refine pw_istore_n (lv' := [(3, .int v3_16), (0, .ref b), (1, .int l), (2, .int n)]) h d_X6_begin_16 rfl _ hml (by decide) rfl ?_
  have cut_17 : ∀ (N i : Nat) (v : Int32), 13 < i + N → i ≤ 13 → v = nI i → PW X 17 [(0, .ref b), (1, .int l), (2, .int n), (3, .int v)] [] sh (u1 (u2 (u2 (u2 I b 0 1) b 1 l) b 2 n) (b + 1) (fun j => if j < i then 0 else I (b + 1) j)) L R 0 0 := by
    intro N
    induction N with
    | zero => intros; omega
    | succ N ih =>
      intro i v hN hi ev
      refine pw_iload_n h 3 d_X6_begin_17 rfl ?_
      refine pw_bipush (x := 13) h d_X6_begin_18 (by decide) ?_
      refine pw_icmp_ge 36 h d_X6_begin_20 (by decide) (fun c_20 => ?_) (fun c_20 => ?_)
      · skip
        have hge := k_ge ev (n := 13) rfl (by omega) (by omega) c_20
        have e : i = 13 := by omega
        subst e
        refine pw_vret h hr d_X6_begin_36 (by decide) (by decide) ?_
        exact ⟨rfl, rfl, rfl, rfl, rfl⟩
      · skip
        have hlt := k_lt ev (n := 13) rfl (by omega) (by omega) c_20
        have hx := k_ix ev hlt (by decide)
        refine pw_aload_n h 0 d_X6_begin_23 rfl ?_
        refine pw_getR (j := (b + 1)) 6 h d_X6_begin_24 fd_RX6_22 (by assumption) rfl (by assumption) ?_
        refine pw_iload_n h 3 d_X6_begin_27 rfl ?_
        refine pw_iconst (x := 0) h d_X6_begin_28 (by decide) ?_
        refine pw_iast h d_X6_begin_29 (by assumption) (by assumption) ?_
        obtain ⟨v3_30, e3_30⟩ : ∃ z : Int32, z = v + (1) := ⟨_, rfl⟩
        refine pw_iinc (lv' := [(3, .int v3_30), (0, .ref b), (1, .int l), (2, .int n)]) v3_30 h d_X6_begin_30 3 rfl e3_30.symm _ hml (by decide) rfl ?_
        refine pw_goto 17 h d_X6_begin_33 (by decide) ?_
        refine PW.perm [1, 2, 3, 0] rfl ?_
        refine pw_mem ?_ rfl rfl (ih (i + 1) v3_30 (by omega) (by omega) (k_up e3_30 ev))
        exact u1_step
  refine PW.perm [1, 2, 3, 0] rfl ?_
  refine pw_mem ?_ rfl rfl (cut_17 14 0 v3_16 (by omega) (by omega) e3_16)
  exact u1_none (fun j => by rw [u2_n1 (by omega), u2_n1 (by omega), u2_n1 (by omega)])

set_option maxHeartbeats 4000000 in
set_option maxRecDepth 100000 in
theorem c_X6_has {sh : Sh} {I : IM} {L : LM} {R : RM} {b : Nat} (hS : SheetF sh R b) (i n : Int32) : PMet M_X6_has [.ref b, .int i, .int n] sh I L R (pRet (some (.int (bI (hasB (I b 2) i n)))) sh I L R) := by
  refine PMet.of mf_X6_has (Nat.le_of_ble_eq_true rfl) ?_
  intro X h hr hml
  have hml : (xc X).maxLocals = 3 := hml
  have h : PXok X RX6 cX6_has 1 0 0 := h
  have hr : PXr X (some .boolean) "has" _ 0 0 := hr
  obtain ⟨f0, f1, g1⟩ := hS
  show PW X 0 [(0, .ref b), (1, .int i), (2, .int n)] [] sh I L R 0 0
  refine pw_iload_n h 1 d_X6_has_0 rfl ?_
  refine pw_if_lt 30 h d_X6_has_1 (by decide) (fun c_1 => ?_) (fun c_1 => ?_)
  · skip
    refine pw_iconst (x := 0) h d_X6_has_30 (by decide) ?_
    refine pw_iret h hr d_X6_has_31 rfl (by decide) (by decide) ?_
    first | exact ⟨congrArg (fun z => some (Value.int z)) (bI_t (decide_eq_true (by exact ⟨by assumption, by assumption, by assumption, by assumption⟩))), rfl, rfl, rfl, rfl⟩ | exact ⟨congrArg (fun z => some (Value.int z)) (bI_f (decide_eq_false (by intro q; first | exact absurd q.1 (by assumption) | exact absurd q.2.1 (by assumption) | exact absurd (by assumption) q.1 | exact absurd (by assumption) q.2.1 | exact absurd (by assumption) q.2.2.1 | exact absurd (by assumption) q.2.2.2))), rfl, rfl, rfl, rfl⟩
  · skip
    refine pw_iload_n h 2 d_X6_has_4 rfl ?_
    refine pw_if_lt 30 h d_X6_has_5 (by decide) (fun c_5 => ?_) (fun c_5 => ?_)
    · skip
      refine pw_iconst (x := 0) h d_X6_has_30 (by decide) ?_
      refine pw_iret h hr d_X6_has_31 rfl (by decide) (by decide) ?_
      first | exact ⟨congrArg (fun z => some (Value.int z)) (bI_t (decide_eq_true (by exact ⟨by assumption, by assumption, by assumption, by assumption⟩))), rfl, rfl, rfl, rfl⟩ | exact ⟨congrArg (fun z => some (Value.int z)) (bI_f (decide_eq_false (by intro q; first | exact absurd q.1 (by assumption) | exact absurd q.2.1 (by assumption) | exact absurd (by assumption) q.1 | exact absurd (by assumption) q.2.1 | exact absurd (by assumption) q.2.2.1 | exact absurd (by assumption) q.2.2.2))), rfl, rfl, rfl, rfl⟩
    · skip
      refine pw_iload_n h 2 d_X6_has_8 rfl ?_
      refine pw_aload_n h 0 d_X6_has_9 rfl ?_
      refine pw_getI 6 h d_X6_has_10 fd_RX6_19 (by assumption) rfl ?_
      refine pw_icmp_gt 30 h d_X6_has_13 (by decide) (fun c_13 => ?_) (fun c_13 => ?_)
      · skip
        refine pw_iconst (x := 0) h d_X6_has_30 (by decide) ?_
        refine pw_iret h hr d_X6_has_31 rfl (by decide) (by decide) ?_
        first | exact ⟨congrArg (fun z => some (Value.int z)) (bI_t (decide_eq_true (by exact ⟨by assumption, by assumption, by assumption, by assumption⟩))), rfl, rfl, rfl, rfl⟩ | exact ⟨congrArg (fun z => some (Value.int z)) (bI_f (decide_eq_false (by intro q; first | exact absurd q.1 (by assumption) | exact absurd q.2.1 (by assumption) | exact absurd (by assumption) q.1 | exact absurd (by assumption) q.2.1 | exact absurd (by assumption) q.2.2.1 | exact absurd (by assumption) q.2.2.2))), rfl, rfl, rfl, rfl⟩
      · skip
        refine pw_iload_n h 1 d_X6_has_16 rfl ?_
        refine pw_aload_n h 0 d_X6_has_17 rfl ?_
        refine pw_getI 6 h d_X6_has_18 fd_RX6_19 (by assumption) rfl ?_
        refine pw_iload_n h 2 d_X6_has_21 rfl ?_
        refine pw_isub h d_X6_has_22 ?_
        refine pw_icmp_gt 30 h d_X6_has_23 (by decide) (fun c_23 => ?_) (fun c_23 => ?_)
        · skip
          refine pw_iconst (x := 0) h d_X6_has_30 (by decide) ?_
          refine pw_iret h hr d_X6_has_31 rfl (by decide) (by decide) ?_
          first | exact ⟨congrArg (fun z => some (Value.int z)) (bI_t (decide_eq_true (by exact ⟨by assumption, by assumption, by assumption, by assumption⟩))), rfl, rfl, rfl, rfl⟩ | exact ⟨congrArg (fun z => some (Value.int z)) (bI_f (decide_eq_false (by intro q; first | exact absurd q.1 (by assumption) | exact absurd q.2.1 (by assumption) | exact absurd (by assumption) q.1 | exact absurd (by assumption) q.2.1 | exact absurd (by assumption) q.2.2.1 | exact absurd (by assumption) q.2.2.2))), rfl, rfl, rfl, rfl⟩
        · skip
          refine pw_iconst (x := 1) h d_X6_has_26 (by decide) ?_
          refine pw_goto 31 h d_X6_has_27 (by decide) ?_
          refine pw_iret h hr d_X6_has_31 rfl (by decide) (by decide) ?_
          first | exact ⟨congrArg (fun z => some (Value.int z)) (bI_t (decide_eq_true (by exact ⟨by assumption, by assumption, by assumption, by assumption⟩))), rfl, rfl, rfl, rfl⟩ | exact ⟨congrArg (fun z => some (Value.int z)) (bI_f (decide_eq_false (by intro q; first | exact absurd q.1 (by assumption) | exact absurd q.2.1 (by assumption) | exact absurd (by assumption) q.1 | exact absurd (by assumption) q.2.1 | exact absurd (by assumption) q.2.2.1 | exact absurd (by assumption) q.2.2.2))), rfl, rfl, rfl, rfl⟩

set_option maxHeartbeats 4000000 in
set_option maxRecDepth 100000 in
theorem c_X6_faultOf {sh : Sh} {I : IM} {L : LM} {R : RM} {b : Nat} (hS : SheetF sh R b) (l i n : Int32) : PMet M_X6_faultOf [.ref b, .int l, .int i, .int n] sh I L R (pRet (some (.int (faultS (I b 0) (I b 1) (I b 2) l i n))) sh I L R) := by
  refine PMet.of mf_X6_faultOf (Nat.le_of_ble_eq_true rfl) ?_
  intro X h hr hml
  have hml : (xc X).maxLocals = 4 := hml
  have h : PXok X RX6 cX6_faultOf 2 0 0 := h
  have hr : PXr X (some .int) "faultOf" _ 0 0 := hr
  have hS0 := hS
  obtain ⟨f0, f1, g1⟩ := hS
  show PW X 0 [(0, .ref b), (1, .int l), (2, .int i), (3, .int n)] [] sh I L R 0 0
  refine pw_aload_n h 0 d_X6_faultOf_0 rfl ?_
  refine pw_getI 6 h d_X6_faultOf_1 fd_RX6_9 (by assumption) rfl ?_
  refine pw_if_ne 10 h d_X6_faultOf_4 (by decide) (fun c_4 => ?_) (fun c_4 => ?_)
  · skip
    refine pw_aload_n h 0 d_X6_faultOf_10 rfl ?_
    refine pw_getI 6 h d_X6_faultOf_11 fd_RX6_15 (by assumption) rfl ?_
    refine pw_iload_n h 1 d_X6_faultOf_14 rfl ?_
    refine pw_icmp_eq 21 h d_X6_faultOf_15 (by decide) (fun c_15 => ?_) (fun c_15 => ?_)
    · skip
      refine pw_aload_n h 0 d_X6_faultOf_21 rfl ?_
      refine pw_iload_n h 2 d_X6_faultOf_22 rfl ?_
      refine pw_iload_n h 3 d_X6_faultOf_23 rfl ?_
      refine pw_callV (As := [.int _, .int _]) h d_X6_faultOf_24 mf_X6_has mi_X6_has ml_RX6_26 ⟨by decide, by decide, by decide⟩ (by assumption) rfl rfl (Nat.le_of_ble_eq_true rfl) trivial (c_X6_has hS0 i n) ?_
      refine PKk.ret ?_
      refine pw_if_eq 34 h d_X6_faultOf_27 (by decide) (fun c_27 => ?_) (fun c_27 => ?_)
      · skip
        rw [bI_1] at c_27
        refine pw_bipush (x := (-13)) h d_X6_faultOf_34 (by decide) ?_
        refine pw_iret h hr d_X6_faultOf_36 rfl (by decide) (by decide) ?_
        refine ⟨congrArg (fun z => some (Value.int z)) ?_, rfl, rfl, rfl, rfl⟩
        unfold faultS
        simp_all
      · skip
        rw [bI_1, Bool.not_eq_false] at c_27
        refine pw_iconst (x := 0) h d_X6_faultOf_30 (by decide) ?_
        refine pw_goto 36 h d_X6_faultOf_31 (by decide) ?_
        refine pw_iret h hr d_X6_faultOf_36 rfl (by decide) (by decide) ?_
        refine ⟨congrArg (fun z => some (Value.int z)) ?_, rfl, rfl, rfl, rfl⟩
        unfold faultS
        simp_all
    · skip
      refine pw_bipush (x := (-12)) h d_X6_faultOf_18 (by decide) ?_
      refine pw_iret h hr d_X6_faultOf_20 rfl (by decide) (by decide) ?_
      refine ⟨congrArg (fun z => some (Value.int z)) ?_, rfl, rfl, rfl, rfl⟩
      unfold faultS
      simp_all
  · skip
    refine pw_bipush (x := (-11)) h d_X6_faultOf_7 (by decide) ?_
    refine pw_iret h hr d_X6_faultOf_9 rfl (by decide) (by decide) ?_
    refine ⟨congrArg (fun z => some (Value.int z)) ?_, rfl, rfl, rfl, rfl⟩
    unfold faultS
    simp_all

set_option maxHeartbeats 4000000 in
set_option maxRecDepth 100000 in
theorem c_X1_part {sh : Sh} {I : IM} {L : LM} {R : RM} {b : Nat} (f0 : sh[b]? = some (.inl 1)) (w : Int32) : PMet M_X1_part [.ref b, .int w] sh I L R (pRet (some (.long (if w = 0 then L b 0 else L b 1))) sh I L R) := by
  refine PMet.of mf_X1_part (Nat.le_of_ble_eq_true rfl) ?_
  intro X h hr hml
  have hml : (xc X).maxLocals = 2 := hml
  have h : PXok X RX1 cX1_part 1 0 0 := h
  have hr : PXr X (some .long) "part" _ 0 0 := hr
  show PW X 0 [(0, .ref b), (1, .int w)] [] sh I L R 0 0
  refine pw_iload_n h 1 d_X1_part_0 rfl ?_
  refine pw_if_ne 11 h d_X1_part_1 (by decide) (fun c_1 => ?_) (fun c_1 => ?_)
  · skip
    refine pw_aload_n h 0 d_X1_part_11 rfl ?_
    refine pw_getL 1 h d_X1_part_12 fd_RX1_13 (by assumption) rfl ?_
    refine pw_lret h hr d_X1_part_15 (by decide) (by decide) ?_
    first | exact ⟨by rw [if_neg c_1], rfl, rfl, rfl, rfl⟩ | exact ⟨by rw [if_pos c_1], rfl, rfl, rfl, rfl⟩
  · skip
    refine pw_aload_n h 0 d_X1_part_4 rfl ?_
    refine pw_getL 1 h d_X1_part_5 fd_RX1_7 (by assumption) rfl ?_
    refine pw_goto 15 h d_X1_part_8 (by decide) ?_
    refine pw_lret h hr d_X1_part_15 (by decide) (by decide) ?_
    first | exact ⟨by rw [if_neg c_1], rfl, rfl, rfl, rfl⟩ | exact ⟨by rw [if_pos c_1], rfl, rfl, rfl, rfl⟩

set_option maxHeartbeats 4000000 in
set_option maxRecDepth 100000 in
theorem c_X7_isBearing {sh : Sh} {I : IM} {L : LM} {R : RM} {n : Nat} (v : Int32) (k0 : sh[0]? = some (.inl 7)) (k1 : sh[1]? = some (.inl 2)) (r0 : R 0 0 = some 1) (hn : I 1 0 = nI n) (h6 : n ≤ 6) : PMet M_X7_isBearing [.ref 0, .int v] sh I L R (pRet (some (.int (bI (decide (0 ≤ v.toInt ∧ v.toInt < n))))) sh I L R) := by
  refine PMet.of mf_X7_isBearing (Nat.le_of_ble_eq_true rfl) ?_
  intro X h hr hml
  have hml : (xc X).maxLocals = 2 := hml
  have h : PXok X RX7 cX7_isBearing 2 0 0 := h
  have hr : PXr X (some .boolean) "isBearing" _ 0 0 := hr
  show PW X 0 [(0, .ref 0), (1, .int v)] [] sh I L R 0 0
  refine pw_iload_n h 1 d_X7_isBearing_0 rfl ?_
  refine pw_iconst (x := 0) h d_X7_isBearing_1 (by decide) ?_
  refine pw_aload_n h 0 d_X7_isBearing_2 rfl ?_
  refine pw_getR (j := 1) 7 h d_X7_isBearing_3 fd_RX7_12 (by assumption) rfl (by assumption) ?_
  refine pw_getI 2 h d_X7_isBearing_6 fd_RX7_105 (by assumption) rfl ?_
  refine pw_iconst (x := 1) h d_X7_isBearing_9 (by decide) ?_
  refine pw_isub h d_X7_isBearing_10 ?_
  refine pw_callS (As := [.int _, .int _, .int _]) h d_X7_isBearing_11 mf_X7_isWithin st_yX7_isWithin ml_RX7_97 ⟨by decide, by decide, by decide⟩ rfl rfl (Nat.le_of_ble_eq_true rfl) c_X7_isWithin ?_
  refine PKk.ret ?_
  refine pw_iret h hr d_X7_isBearing_14 (bI_n _ rfl) (by decide) (by decide) ?_
  refine ⟨congrArg (fun z => some (Value.int (bI z))) ?_, rfl, rfl, rfl, rfl⟩
  unfold isW
  rw [hn, show (nI n - 1).toInt = (n : Int) - 1 from pk_sub_toInt (b := 1) (by omega) (by omega)]
  simp only [decide_eq_decide]
  show (0 : Int) ≤ _ ∧ _ ↔ _
  omega
