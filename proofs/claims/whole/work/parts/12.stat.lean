set_option maxHeartbeats 4000000 in
set_option maxRecDepth 100000 in
theorem c_X7_isWithin {v a b : Int32} {sh : Sh} {I : IM} {L : LM} {R : RM} : PMet M_X7_isWithin [.int v, .int a, .int b] sh I L R (pRet (some (.int (bI (isW v a b)))) sh I L R) := by
  refine PMet.of mf_X7_isWithin (Nat.le_of_ble_eq_true rfl) ?_
  intro X h hr hml
  have hml : (xc X).maxLocals = 3 := hml
  have h : PXok X RX7 cX7_isWithin 1 0 0 := h
  have hr : PXr X (some .boolean) "isWithin" _ 0 0 := hr
  show PW X 0 [(0, .int v), (1, .int a), (2, .int b)] [] sh I L R 0 0
  refine pw_iload_n h 0 d_X7_isWithin_0 rfl ?_
  refine pw_iload_n h 1 d_X7_isWithin_1 rfl ?_
  refine pw_icmp_lt 14 h d_X7_isWithin_2 (by decide) (fun c_2 => ?_) (fun c_2 => ?_)
  · skip
    refine pw_iconst (x := 0) h d_X7_isWithin_14 (by decide) ?_
    refine pw_iret h hr d_X7_isWithin_15 rfl (by decide) (by decide) ?_
    simp only [Int32.lt_iff_toInt_lt, Int32.le_iff_toInt_le] at *
    first | exact ⟨congrArg (fun z => some (Value.int z)) (bI_t (by exact isW_t (by omega) (by omega))), rfl, rfl, rfl, rfl⟩ | exact ⟨congrArg (fun z => some (Value.int z)) (bI_f (by exact isW_f (by omega))), rfl, rfl, rfl, rfl⟩
  · skip
    refine pw_iload_n h 0 d_X7_isWithin_5 rfl ?_
    refine pw_iload_n h 2 d_X7_isWithin_6 rfl ?_
    refine pw_icmp_gt 14 h d_X7_isWithin_7 (by decide) (fun c_7 => ?_) (fun c_7 => ?_)
    · skip
      refine pw_iconst (x := 0) h d_X7_isWithin_14 (by decide) ?_
      refine pw_iret h hr d_X7_isWithin_15 rfl (by decide) (by decide) ?_
      simp only [Int32.lt_iff_toInt_lt, Int32.le_iff_toInt_le] at *
      first | exact ⟨congrArg (fun z => some (Value.int z)) (bI_t (by exact isW_t (by omega) (by omega))), rfl, rfl, rfl, rfl⟩ | exact ⟨congrArg (fun z => some (Value.int z)) (bI_f (by exact isW_f (by omega))), rfl, rfl, rfl, rfl⟩
    · skip
      refine pw_iconst (x := 1) h d_X7_isWithin_10 (by decide) ?_
      refine pw_goto 15 h d_X7_isWithin_11 (by decide) ?_
      refine pw_iret h hr d_X7_isWithin_15 rfl (by decide) (by decide) ?_
      simp only [Int32.lt_iff_toInt_lt, Int32.le_iff_toInt_le] at *
      first | exact ⟨congrArg (fun z => some (Value.int z)) (bI_t (by exact isW_t (by omega) (by omega))), rfl, rfl, rfl, rfl⟩ | exact ⟨congrArg (fun z => some (Value.int z)) (bI_f (by exact isW_f (by omega))), rfl, rfl, rfl, rfl⟩

set_option maxHeartbeats 4000000 in
set_option maxRecDepth 100000 in
theorem c_X7_isPlace {v : Int32} {sh : Sh} {I : IM} {L : LM} {R : RM} : PMet M_X7_isPlace [.int v] sh I L R (pRet (some (.int (bI (isW v 0 12)))) sh I L R) := by
  refine PMet.of mf_X7_isPlace (Nat.le_of_ble_eq_true rfl) ?_
  intro X h hr hml
  have hml : (xc X).maxLocals = 1 := hml
  have h : PXok X RX7 cX7_isPlace 2 0 0 := h
  have hr : PXr X (some .boolean) "isPlace" _ 0 0 := hr
  show PW X 0 [(0, .int v)] [] sh I L R 0 0
  refine pw_iload_n h 0 d_X7_isPlace_0 rfl ?_
  refine pw_iconst (x := 0) h d_X7_isPlace_1 (by decide) ?_
  refine pw_bipush (x := 12) h d_X7_isPlace_2 (by decide) ?_
  refine pw_callS (As := [.int _, .int _, .int _]) h d_X7_isPlace_4 mf_X7_isWithin st_yX7_isWithin ml_RX7_97 ⟨by decide, by decide, by decide⟩ rfl rfl (by decide) c_X7_isWithin ?_
  refine PKk.ret ?_
  refine pw_iret h hr d_X7_isPlace_7 (bI_n _ rfl) (by decide) (by decide) ?_
  exact ⟨rfl, rfl, rfl, rfl, rfl⟩

set_option maxHeartbeats 4000000 in
set_option maxRecDepth 100000 in
theorem c_X7_isState {v : Int32} {sh : Sh} {I : IM} {L : LM} {R : RM} : PMet M_X7_isState [.int v] sh I L R (pRet (some (.int (bI (isW v 0 3)))) sh I L R) := by
  refine PMet.of mf_X7_isState (Nat.le_of_ble_eq_true rfl) ?_
  intro X h hr hml
  have hml : (xc X).maxLocals = 1 := hml
  have h : PXok X RX7 cX7_isState 2 0 0 := h
  have hr : PXr X (some .boolean) "isState" _ 0 0 := hr
  show PW X 0 [(0, .int v)] [] sh I L R 0 0
  refine pw_iload_n h 0 d_X7_isState_0 rfl ?_
  refine pw_iconst (x := 0) h d_X7_isState_1 (by decide) ?_
  refine pw_iconst (x := 3) h d_X7_isState_2 (by decide) ?_
  refine pw_callS (As := [.int _, .int _, .int _]) h d_X7_isState_3 mf_X7_isWithin st_yX7_isWithin ml_RX7_97 ⟨by decide, by decide, by decide⟩ rfl rfl (by decide) c_X7_isWithin ?_
  refine PKk.ret ?_
  refine pw_iret h hr d_X7_isState_6 (bI_n _ rfl) (by decide) (by decide) ?_
  exact ⟨rfl, rfl, rfl, rfl, rfl⟩

set_option maxHeartbeats 4000000 in
set_option maxRecDepth 100000 in
theorem c_X7_isRise {v : Int32} {sh : Sh} {I : IM} {L : LM} {R : RM} : PMet M_X7_isRise [.int v] sh I L R (pRet (some (.int (bI (isW v (-20) 20)))) sh I L R) := by
  refine PMet.of mf_X7_isRise (Nat.le_of_ble_eq_true rfl) ?_
  intro X h hr hml
  have hml : (xc X).maxLocals = 1 := hml
  have h : PXok X RX7 cX7_isRise 2 0 0 := h
  have hr : PXr X (some .boolean) "isRise" _ 0 0 := hr
  show PW X 0 [(0, .int v)] [] sh I L R 0 0
  refine pw_iload_n h 0 d_X7_isRise_0 rfl ?_
  refine pw_bipush (x := (-20)) h d_X7_isRise_1 (by decide) ?_
  refine pw_bipush (x := 20) h d_X7_isRise_3 (by decide) ?_
  refine pw_callS (As := [.int _, .int _, .int _]) h d_X7_isRise_5 mf_X7_isWithin st_yX7_isWithin ml_RX7_97 ⟨by decide, by decide, by decide⟩ rfl rfl (by decide) c_X7_isWithin ?_
  refine PKk.ret ?_
  refine pw_iret h hr d_X7_isRise_8 (bI_n _ rfl) (by decide) (by decide) ?_
  exact ⟨rfl, rfl, rfl, rfl, rfl⟩

set_option maxHeartbeats 4000000 in
set_option maxRecDepth 100000 in
theorem c_X7_isSheet {v : Int32} {sh : Sh} {I : IM} {L : LM} {R : RM} : PMet M_X7_isSheet [.int v] sh I L R (pRet (some (.int (bI (isW v 0 3)))) sh I L R) := by
  refine PMet.of mf_X7_isSheet (Nat.le_of_ble_eq_true rfl) ?_
  intro X h hr hml
  have hml : (xc X).maxLocals = 1 := hml
  have h : PXok X RX7 cX7_isSheet 2 0 0 := h
  have hr : PXr X (some .boolean) "isSheet" _ 0 0 := hr
  show PW X 0 [(0, .int v)] [] sh I L R 0 0
  refine pw_iload_n h 0 d_X7_isSheet_0 rfl ?_
  refine pw_iconst (x := 0) h d_X7_isSheet_1 (by decide) ?_
  refine pw_iconst (x := 3) h d_X7_isSheet_2 (by decide) ?_
  refine pw_callS (As := [.int _, .int _, .int _]) h d_X7_isSheet_3 mf_X7_isWithin st_yX7_isWithin ml_RX7_97 ⟨by decide, by decide, by decide⟩ rfl rfl (by decide) c_X7_isWithin ?_
  refine PKk.ret ?_
  refine pw_iret h hr d_X7_isSheet_6 (bI_n _ rfl) (by decide) (by decide) ?_
  exact ⟨rfl, rfl, rfl, rfl, rfl⟩

set_option maxHeartbeats 4000000 in
set_option maxRecDepth 100000 in
theorem c_X7_isLane {v : Int32} {sh : Sh} {I : IM} {L : LM} {R : RM} : PMet M_X7_isLane [.int v] sh I L R (pRet (some (.int (bI (isW v 0 2)))) sh I L R) := by
  refine PMet.of mf_X7_isLane (Nat.le_of_ble_eq_true rfl) ?_
  intro X h hr hml
  have hml : (xc X).maxLocals = 1 := hml
  have h : PXok X RX7 cX7_isLane 2 0 0 := h
  have hr : PXr X (some .boolean) "isLane" _ 0 0 := hr
  show PW X 0 [(0, .int v)] [] sh I L R 0 0
  refine pw_iload_n h 0 d_X7_isLane_0 rfl ?_
  refine pw_iconst (x := 0) h d_X7_isLane_1 (by decide) ?_
  refine pw_iconst (x := 2) h d_X7_isLane_2 (by decide) ?_
  refine pw_callS (As := [.int _, .int _, .int _]) h d_X7_isLane_3 mf_X7_isWithin st_yX7_isWithin ml_RX7_97 ⟨by decide, by decide, by decide⟩ rfl rfl (by decide) c_X7_isWithin ?_
  refine PKk.ret ?_
  refine pw_iret h hr d_X7_isLane_6 (bI_n _ rfl) (by decide) (by decide) ?_
  exact ⟨rfl, rfl, rfl, rfl, rfl⟩

set_option maxHeartbeats 4000000 in
set_option maxRecDepth 100000 in
theorem c_X7_isPart {v : Int32} {sh : Sh} {I : IM} {L : LM} {R : RM} : PMet M_X7_isPart [.int v] sh I L R (pRet (some (.int (bI (isW v 0 1)))) sh I L R) := by
  refine PMet.of mf_X7_isPart (Nat.le_of_ble_eq_true rfl) ?_
  intro X h hr hml
  have hml : (xc X).maxLocals = 1 := hml
  have h : PXok X RX7 cX7_isPart 2 0 0 := h
  have hr : PXr X (some .boolean) "isPart" _ 0 0 := hr
  show PW X 0 [(0, .int v)] [] sh I L R 0 0
  refine pw_iload_n h 0 d_X7_isPart_0 rfl ?_
  refine pw_iconst (x := 0) h d_X7_isPart_1 (by decide) ?_
  refine pw_iconst (x := 1) h d_X7_isPart_2 (by decide) ?_
  refine pw_callS (As := [.int _, .int _, .int _]) h d_X7_isPart_3 mf_X7_isWithin st_yX7_isWithin ml_RX7_97 ⟨by decide, by decide, by decide⟩ rfl rfl (by decide) c_X7_isWithin ?_
  refine PKk.ret ?_
  refine pw_iret h hr d_X7_isPart_6 (bI_n _ rfl) (by decide) (by decide) ?_
  exact ⟨rfl, rfl, rfl, rfl, rfl⟩

set_option maxHeartbeats 4000000 in
set_option maxRecDepth 100000 in
theorem c_X8_in {v a b : Int64} {sh : Sh} {I : IM} {L : LM} {R : RM} : PMet M_X8_in [.long v, .long a, .long b] sh I L R (pRet (some (.int (bI (isWL v a b)))) sh I L R) := by
  refine PMet.of mf_X8_in (Nat.le_of_ble_eq_true rfl) ?_
  intro X h hr hml
  have hml : (xc X).maxLocals = 6 := hml
  have h : PXok X RX8 cX8_in 1 0 0 := h
  have hr : PXr X (some .boolean) "in" _ 0 0 := hr
  show PW X 0 [(0, .long v), (2, .long a), (4, .long b)] [] sh I L R 0 0
  refine pw_lload_n h 0 d_X8_in_0 rfl ?_
  refine pw_lload_n h 1 d_X8_in_1 rfl ?_
  refine pw_lcmp h d_X8_in_2 ?_
  refine pw_if_lt 17 h d_X8_in_3 (by decide) (fun c_3 => ?_) (fun c_3 => ?_)
  · skip
    refine pw_iconst (x := 0) h d_X8_in_17 (by decide) ?_
    refine pw_iret h hr d_X8_in_18 rfl (by decide) (by decide) ?_
    simp only [lc_lt, lc_gt, lc_ge, lc_le] at *
    first | exact ⟨congrArg (fun z => some (Value.int z)) (bI_t (by exact isWL_t (by omega) (by omega))), rfl, rfl, rfl, rfl⟩ | exact ⟨congrArg (fun z => some (Value.int z)) (bI_f (by exact isWL_f (by omega))), rfl, rfl, rfl, rfl⟩
  · skip
    refine pw_lload_n h 0 d_X8_in_6 rfl ?_
    refine pw_lload h 2 d_X8_in_7 rfl ?_
    refine pw_lcmp h d_X8_in_9 ?_
    refine pw_if_gt 17 h d_X8_in_10 (by decide) (fun c_10 => ?_) (fun c_10 => ?_)
    · skip
      refine pw_iconst (x := 0) h d_X8_in_17 (by decide) ?_
      refine pw_iret h hr d_X8_in_18 rfl (by decide) (by decide) ?_
      simp only [lc_lt, lc_gt, lc_ge, lc_le] at *
      first | exact ⟨congrArg (fun z => some (Value.int z)) (bI_t (by exact isWL_t (by omega) (by omega))), rfl, rfl, rfl, rfl⟩ | exact ⟨congrArg (fun z => some (Value.int z)) (bI_f (by exact isWL_f (by omega))), rfl, rfl, rfl, rfl⟩
    · skip
      refine pw_iconst (x := 1) h d_X8_in_13 (by decide) ?_
      refine pw_goto 18 h d_X8_in_14 (by decide) ?_
      refine pw_iret h hr d_X8_in_18 rfl (by decide) (by decide) ?_
      simp only [lc_lt, lc_gt, lc_ge, lc_le] at *
      first | exact ⟨congrArg (fun z => some (Value.int z)) (bI_t (by exact isWL_t (by omega) (by omega))), rfl, rfl, rfl, rfl⟩ | exact ⟨congrArg (fun z => some (Value.int z)) (bI_f (by exact isWL_f (by omega))), rfl, rfl, rfl, rfl⟩
