set_option maxHeartbeats 4000000 in
set_option maxRecDepth 100000 in
theorem c_X8_isAhead {x y : Int32} {sh : Sh} {I : IM} {L : LM} {R : RM} : PMet M_X8_isAhead [.int x, .int y] sh I L R (pRet (some (.int (bI (ahdB x y)))) sh I L R) := by
  refine PMet.of mf_X8_isAhead (Nat.le_of_ble_eq_true rfl) ?_
  intro X h hr hml
  have hml : (xc X).maxLocals = 3 := hml
  have h : PXok X RX8 cX8_isAhead 1 0 0 := h
  have hr : PXr X (some .boolean) "isAhead" _ 0 0 := hr
  show PW X 0 [(0, .int x), (1, .int y)] [] sh I L R 0 0
  refine pw_iconst (x := 0) h d_X8_isAhead_0 (by decide) ?_
  refine pw_nmI (fun v2_1 e2_1 => ?_)
  refine pw_istore_n (lv' := [(2, .int v2_1), (0, .int x), (1, .int y)]) h d_X8_isAhead_1 rfl _ hml (by decide) rfl ?_
  have cut_2 : ∀ (N i : Nat) (v : Int32), 7 < i + N → i ≤ 7 → v = nI i → fstB (difB x y) i = none → PW X 2 [(0, .int x), (1, .int y), (2, .int v)] [] sh I L R 0 0 := by
    intro N
    induction N with
    | zero => intros; omega
    | succ N ih =>
      intro i v hN hi ev hf
      refine pw_iload_n h 2 d_X8_isAhead_2 rfl ?_
      refine pw_bipush (x := 7) h d_X8_isAhead_3 (by decide) ?_
      refine pw_icmp_ge 27 h d_X8_isAhead_5 (by decide) (fun c_5 => ?_) (fun c_5 => ?_)
      · skip
        have hge := k_ge ev (n := 7) rfl (by omega) (by omega) c_5
        have e : i = 7 := by omega
        subst e
        refine pw_iload_n h 2 d_X8_isAhead_27 rfl ?_
        refine pw_bipush (x := 7) h d_X8_isAhead_28 (by decide) ?_
        refine pw_icmp_ge 46 h d_X8_isAhead_30 (by decide) (fun c_30 => ?_) (fun c_30 => ?_)
        · skip
          refine pw_iconst (x := 0) h d_X8_isAhead_46 (by decide) ?_
          refine pw_iret h hr d_X8_isAhead_47 rfl (by decide) (by decide) ?_
          first | exact ⟨congrArg (fun z => some (Value.int z)) (bI_f (ahdB_n hf)), rfl, rfl, rfl, rfl⟩ | exact ⟨congrArg (fun z => some (Value.int z)) (bI_t (by rw [ahdB_s hs]; exact decide_eq_true (by rw [ev] at c_39; exact c_39))), rfl, rfl, rfl, rfl⟩ | exact ⟨congrArg (fun z => some (Value.int z)) (bI_f (by rw [ahdB_s hs]; exact decide_eq_false (by rw [ev] at c_39; exact c_39))), rfl, rfl, rfl, rfl⟩ | exact absurd (by rw [ev]; decide) c_30 | exact absurd hlt (by have := k_ge ev (n := 7) rfl (by omega) (by omega) c_30; omega)
        · skip
          refine pw_iload_n h 0 d_X8_isAhead_33 rfl ?_
          refine pw_iload_n h 2 d_X8_isAhead_34 rfl ?_
          refine pw_ishr h d_X8_isAhead_35 ?_
          refine pw_iconst (x := 1) h d_X8_isAhead_36 (by decide) ?_
          refine pw_iand h d_X8_isAhead_37 ?_
          refine pw_iconst (x := 1) h d_X8_isAhead_38 (by decide) ?_
          refine pw_icmp_ne 46 h d_X8_isAhead_39 (by decide) (fun c_39 => ?_) (fun c_39 => ?_)
          · skip
            refine pw_iconst (x := 0) h d_X8_isAhead_46 (by decide) ?_
            refine pw_iret h hr d_X8_isAhead_47 rfl (by decide) (by decide) ?_
            first | exact ⟨congrArg (fun z => some (Value.int z)) (bI_f (ahdB_n hf)), rfl, rfl, rfl, rfl⟩ | exact ⟨congrArg (fun z => some (Value.int z)) (bI_t (by rw [ahdB_s hs]; exact decide_eq_true (by rw [ev] at c_39; exact c_39))), rfl, rfl, rfl, rfl⟩ | exact ⟨congrArg (fun z => some (Value.int z)) (bI_f (by rw [ahdB_s hs]; exact decide_eq_false (by rw [ev] at c_39; exact c_39))), rfl, rfl, rfl, rfl⟩ | exact absurd (by rw [ev]; decide) c_30 | exact absurd hlt (by have := k_ge ev (n := 7) rfl (by omega) (by omega) c_30; omega)
          · skip
            refine pw_iconst (x := 1) h d_X8_isAhead_42 (by decide) ?_
            refine pw_goto 47 h d_X8_isAhead_43 (by decide) ?_
            refine pw_iret h hr d_X8_isAhead_47 rfl (by decide) (by decide) ?_
            first | exact ⟨congrArg (fun z => some (Value.int z)) (bI_f (ahdB_n hf)), rfl, rfl, rfl, rfl⟩ | exact ⟨congrArg (fun z => some (Value.int z)) (bI_t (by rw [ahdB_s hs]; exact decide_eq_true (by rw [ev] at c_39; exact c_39))), rfl, rfl, rfl, rfl⟩ | exact ⟨congrArg (fun z => some (Value.int z)) (bI_f (by rw [ahdB_s hs]; exact decide_eq_false (by rw [ev] at c_39; exact c_39))), rfl, rfl, rfl, rfl⟩ | exact absurd (by rw [ev]; decide) c_30 | exact absurd hlt (by have := k_ge ev (n := 7) rfl (by omega) (by omega) c_30; omega)
      · skip
        have hlt := k_lt ev (n := 7) rfl (by omega) (by omega) c_5
        refine pw_iload_n h 0 d_X8_isAhead_8 rfl ?_
        refine pw_iload_n h 2 d_X8_isAhead_9 rfl ?_
        refine pw_ishr h d_X8_isAhead_10 ?_
        refine pw_iconst (x := 1) h d_X8_isAhead_11 (by decide) ?_
        refine pw_iand h d_X8_isAhead_12 ?_
        refine pw_iload_n h 1 d_X8_isAhead_13 rfl ?_
        refine pw_iload_n h 2 d_X8_isAhead_14 rfl ?_
        refine pw_ishr h d_X8_isAhead_15 ?_
        refine pw_iconst (x := 1) h d_X8_isAhead_16 (by decide) ?_
        refine pw_iand h d_X8_isAhead_17 ?_
        refine pw_icmp_ne 27 h d_X8_isAhead_18 (by decide) (fun c_18 => ?_) (fun c_18 => ?_)
        · skip
          have hs : fstB (difB x y) 7 = some i := fstB_at hf (decide_eq_true (fun q => c_18 (by rw [ev]; exact q))) 7 hlt
          refine pw_iload_n h 2 d_X8_isAhead_27 rfl ?_
          refine pw_bipush (x := 7) h d_X8_isAhead_28 (by decide) ?_
          refine pw_icmp_ge 46 h d_X8_isAhead_30 (by decide) (fun c_30 => ?_) (fun c_30 => ?_)
          · skip
            refine pw_iconst (x := 0) h d_X8_isAhead_46 (by decide) ?_
            refine pw_iret h hr d_X8_isAhead_47 rfl (by decide) (by decide) ?_
            first | exact ⟨congrArg (fun z => some (Value.int z)) (bI_f (ahdB_n hf)), rfl, rfl, rfl, rfl⟩ | exact ⟨congrArg (fun z => some (Value.int z)) (bI_t (by rw [ahdB_s hs]; exact decide_eq_true (by rw [ev] at c_39; exact c_39))), rfl, rfl, rfl, rfl⟩ | exact ⟨congrArg (fun z => some (Value.int z)) (bI_f (by rw [ahdB_s hs]; exact decide_eq_false (by rw [ev] at c_39; exact c_39))), rfl, rfl, rfl, rfl⟩ | exact absurd (by rw [ev]; decide) c_30 | exact absurd hlt (by have := k_ge ev (n := 7) rfl (by omega) (by omega) c_30; omega)
          · skip
            refine pw_iload_n h 0 d_X8_isAhead_33 rfl ?_
            refine pw_iload_n h 2 d_X8_isAhead_34 rfl ?_
            refine pw_ishr h d_X8_isAhead_35 ?_
            refine pw_iconst (x := 1) h d_X8_isAhead_36 (by decide) ?_
            refine pw_iand h d_X8_isAhead_37 ?_
            refine pw_iconst (x := 1) h d_X8_isAhead_38 (by decide) ?_
            refine pw_icmp_ne 46 h d_X8_isAhead_39 (by decide) (fun c_39 => ?_) (fun c_39 => ?_)
            · skip
              refine pw_iconst (x := 0) h d_X8_isAhead_46 (by decide) ?_
              refine pw_iret h hr d_X8_isAhead_47 rfl (by decide) (by decide) ?_
              first | exact ⟨congrArg (fun z => some (Value.int z)) (bI_f (ahdB_n hf)), rfl, rfl, rfl, rfl⟩ | exact ⟨congrArg (fun z => some (Value.int z)) (bI_t (by rw [ahdB_s hs]; exact decide_eq_true (by rw [ev] at c_39; exact c_39))), rfl, rfl, rfl, rfl⟩ | exact ⟨congrArg (fun z => some (Value.int z)) (bI_f (by rw [ahdB_s hs]; exact decide_eq_false (by rw [ev] at c_39; exact c_39))), rfl, rfl, rfl, rfl⟩ | exact absurd (by rw [ev]; decide) c_30 | exact absurd hlt (by have := k_ge ev (n := 7) rfl (by omega) (by omega) c_30; omega)
            · skip
              refine pw_iconst (x := 1) h d_X8_isAhead_42 (by decide) ?_
              refine pw_goto 47 h d_X8_isAhead_43 (by decide) ?_
              refine pw_iret h hr d_X8_isAhead_47 rfl (by decide) (by decide) ?_
              first | exact ⟨congrArg (fun z => some (Value.int z)) (bI_f (ahdB_n hf)), rfl, rfl, rfl, rfl⟩ | exact ⟨congrArg (fun z => some (Value.int z)) (bI_t (by rw [ahdB_s hs]; exact decide_eq_true (by rw [ev] at c_39; exact c_39))), rfl, rfl, rfl, rfl⟩ | exact ⟨congrArg (fun z => some (Value.int z)) (bI_f (by rw [ahdB_s hs]; exact decide_eq_false (by rw [ev] at c_39; exact c_39))), rfl, rfl, rfl, rfl⟩ | exact absurd (by rw [ev]; decide) c_30 | exact absurd hlt (by have := k_ge ev (n := 7) rfl (by omega) (by omega) c_30; omega)
        · skip
          obtain ⟨v2_21, e2_21⟩ : ∃ z : Int32, z = v + (1) := ⟨_, rfl⟩
          refine pw_iinc (lv' := [(2, .int v2_21), (0, .int x), (1, .int y)]) v2_21 h d_X8_isAhead_21 2 rfl e2_21.symm _ hml (by decide) rfl ?_
          refine pw_goto 2 h d_X8_isAhead_24 (by decide) ?_
          refine PW.perm [1, 2, 0] rfl ?_
          exact ih (i + 1) v2_21 (by omega) (by omega) (k_up e2_21 ev) (fstB_no hf (decide_eq_false (fun q => q (by rw [ev] at c_18; exact c_18))))
  refine PW.perm [1, 2, 0] rfl ?_
  exact cut_2 8 0 v2_1 (by omega) (by omega) e2_1 rfl
