set_option maxHeartbeats 4000000 in
set_option maxRecDepth 100000 in
theorem c_X5_lay {sh : Sh} {I : IM} {L : LM} {R : RM} {r : Nat} (hQ : RestF sh R r) {n : Nat} (hn : I r 1 = nI n) (h7 : n ≤ 7) {q : Nat → Nat} (hq : ∀ k, k < n → px_ix (I (r + 13) k) 13 (q k)) (c : Int32) : PMet M_X5_lay [.ref r, .int c] sh I L R (pRet none sh (layI I r c n n) (solL (layI I r c n n) L (r + 1) (cntS (selC c n) n) (lyN (selC c n) q n)) R) := by
  refine PMet.of mf_X5_lay (Nat.le_of_ble_eq_true rfl) ?_
  intro X h hr hml
  have hml : (xc X).maxLocals = 3 := hml
  have h : PXok X RX5 cX5_lay 4 0 0 := h
  have hr : PXr X none "lay" _ 0 0 := hr
  have hQ0 := hQ
  obtain ⟨q0, q1, hB, q13, q14, q15, p2, p3, p4⟩ := hQ
  have hB0 := hB
  obtain ⟨f0, f1, f2, f3, f4, f5, f6, f7, f8, f9, f10, f11, g1, g2, g3, g9, g10, g11, g12, g13, g14, g15, g16⟩ := hB
  show PW X 0 [(0, .ref r), (1, .int c)] [] sh I L R 0 0
  refine pw_aload_n h 0 d_X5_lay_0 rfl ?_
  refine pw_getR (j := (r + 1)) 5 h d_X5_lay_1 fd_RX5_12 (by assumption) rfl (by assumption) ?_
  refine pw_iconst (x := 0) h d_X5_lay_4 (by decide) ?_
  refine pw_putI 0 h d_X5_lay_5 fd_RX5_53 (by assumption) rfl rfl rfl rfl ?_
  refine pw_iconst (x := 0) h d_X5_lay_8 (by decide) ?_
  refine pw_nmI (fun v2_9 e2_9 => ?_)
  refine pw_istore_n (lv' := [(2, .int v2_9), (0, .ref r), (1, .int c)]) h d_X5_lay_9 rfl _ hml (by decide) rfl ?_
  have cut_10 : ∀ (N i : Nat) (v : Int32), n < i + N → i ≤ n → v = nI i → PW X 10 [(0, .ref r), (1, .int c), (2, .int v)] [] sh (layI I r c n i) L R 0 0 := by
    intro N
    induction N with
    | zero => intros; omega
    | succ N ih =>
      intro i v hN hi ev
      refine pw_iload_n h 2 d_X5_lay_10 rfl ?_
      refine pw_aload_n h 0 d_X5_lay_11 rfl ?_
      refine pw_getI 5 h d_X5_lay_12 fd_RX5_18 (by assumption) rfl ?_
      refine pw_icmp_ge 79 h d_X5_lay_15 (by decide) (fun c_15 => ?_) (fun c_15 => ?_)
      · skip
        have hge := k_ge ev (n := n) (by show ly _ _ _ _ _ _ r 1 = _; rw [ly_o (by omega) (by omega) (by omega) (by omega)]; exact hn) (by omega) (by omega) c_15
        have e : n = i := by omega
        subst e
        refine pw_aload_n h 0 d_X5_lay_79 rfl ?_
        refine pw_getR (j := (r + 1)) 5 h d_X5_lay_80 fd_RX5_12 (by assumption) rfl (by assumption) ?_
        refine pw_callV (As := []) h d_X5_lay_83 mf_X0_solve mi_X0_solve ml_RX5_58 ⟨by decide, by decide, by decide⟩ (by assumption) rfl rfl (Nat.le_of_ble_eq_true rfl) trivial (c_X0_solve hB0 (n := cntS (selC c n) n) (pl := lyN (selC c n) q n) ly_c (by have := cntS_le (s := selC c n) n; omega) (fun k hk => by have := lyP_ix (s := selC c n) (f := I (r + 13)) (g := I (r + 2)) (q := q) (N := 13) n hq k hk; exact (show ly _ r _ _ _ _ (r + 2) k = _ from ly_2).symm ▸ this)) ?_
        refine PKk.ret ?_
        refine pw_vret h hr d_X5_lay_86 (by decide) (by decide) ?_
        exact ⟨rfl, rfl, rfl, rfl, rfl⟩
      · skip
        have hlt := k_lt ev (n := n) (by show ly _ _ _ _ _ _ r 1 = _; rw [ly_o (by omega) (by omega) (by omega) (by omega)]; exact hn) (by omega) (by omega) c_15
        have hx := k_ix ev (show i < 7 by omega) (by decide)
        have hcl := cntS_le (s := selC c n) i
        refine pw_aload_n h 0 d_X5_lay_18 rfl ?_
        refine pw_getR (j := (r + 15)) 5 h d_X5_lay_19 fd_RX5_29 (by assumption) rfl (by assumption) ?_
        refine pw_iload_n h 2 d_X5_lay_22 rfl ?_
        refine pw_iconst (x := (-1)) h d_X5_lay_23 (by decide) ?_
        refine pw_iast h d_X5_lay_24 (by assumption) (by assumption) ?_
        refine pw_iload_n h 1 d_X5_lay_25 rfl ?_
        refine pw_aload_n h 0 d_X5_lay_26 rfl ?_
        refine pw_getI 5 h d_X5_lay_27 fd_RX5_18 (by assumption) rfl ?_
        refine pw_iconst (x := 1) h d_X5_lay_30 (by decide) ?_
        refine pw_isub h d_X5_lay_31 ?_
        refine pw_iload_n h 2 d_X5_lay_32 rfl ?_
        refine pw_isub h d_X5_lay_33 ?_
        refine pw_ishr h d_X5_lay_34 ?_
        refine pw_iconst (x := 1) h d_X5_lay_35 (by decide) ?_
        refine pw_iand h d_X5_lay_36 ?_
        refine pw_iconst (x := 1) h d_X5_lay_37 (by decide) ?_
        refine pw_icmp_ne 73 h d_X5_lay_38 (by decide) (fun c_38 => ?_) (fun c_38 => ?_)
        · skip
          have e9 : u2 (layI I r c n i) (r + 15) i (-1) r 1 = nI n := by rw [u2_n1 (by omega)]; show ly _ _ _ _ _ _ r 1 = _; rw [ly_o (by omega) (by omega) (by omega) (by omega)]; exact hn
          rw [e9, ev, k_sub1 hlt] at c_38
          have hsel : ¬ selC c n i = true := fun q => c_38 (of_decide_eq_true q)
          obtain ⟨v2_73, e2_73⟩ : ∃ z : Int32, z = v + (1) := ⟨_, rfl⟩
          refine pw_iinc (lv' := [(2, .int v2_73), (0, .ref r), (1, .int c)]) v2_73 h d_X5_lay_73 2 rfl e2_73.symm _ hml (by decide) rfl ?_
          refine pw_goto 10 h d_X5_lay_76 (by decide) ?_
          refine PW.perm [1, 2, 0] rfl ?_
          refine pw_mem ?_ rfl rfl (ih (i + 1) v2_73 (by omega) (by omega) (k_up e2_73 ev))
          unfold layI
          first
            | (rw [ly_s15, ly_s15]; refine ly_add.trans ?_; simp only [lyP, lyT, cntS, if_pos hsel, ly_c, ly_o (show r + 13 ≠ r + 1 by omega) (show r + 13 ≠ r + 2 by omega) (show r + 13 ≠ r + 3 by omega) (show r + 13 ≠ r + 15 by omega), ly_o (show r + 14 ≠ r + 1 by omega) (show r + 14 ≠ r + 2 by omega) (show r + 14 ≠ r + 3 by omega) (show r + 14 ≠ r + 15 by omega)])
            | (rw [ly_s15]; simp only [lyP, lyT, cntS, if_neg hsel])
        · skip
          have e9 : u2 (layI I r c n i) (r + 15) i (-1) r 1 = nI n := by rw [u2_n1 (by omega)]; show ly _ _ _ _ _ _ r 1 = _; rw [ly_o (by omega) (by omega) (by omega) (by omega)]; exact hn
          rw [e9, ev, k_sub1 hlt] at c_38
          have hsel : selC c n i = true := decide_eq_true c_38
          refine pw_aload_n h 0 d_X5_lay_41 rfl ?_
          refine pw_getR (j := (r + 15)) 5 h d_X5_lay_42 fd_RX5_29 (by assumption) rfl (by assumption) ?_
          refine pw_iload_n h 2 d_X5_lay_45 rfl ?_
          refine pw_aload_n h 0 d_X5_lay_46 rfl ?_
          refine pw_getR (j := (r + 1)) 5 h d_X5_lay_47 fd_RX5_12 (by assumption) rfl (by assumption) ?_
          refine pw_getI 0 h d_X5_lay_50 fd_RX5_53 (by assumption) rfl ?_
          refine pw_iast h d_X5_lay_53 (by assumption) (by assumption) ?_
          refine pw_aload_n h 0 d_X5_lay_54 rfl ?_
          refine pw_getR (j := (r + 1)) 5 h d_X5_lay_55 fd_RX5_12 (by assumption) rfl (by assumption) ?_
          refine pw_aload_n h 0 d_X5_lay_58 rfl ?_
          refine pw_getR (j := (r + 13)) 5 h d_X5_lay_59 fd_RX5_22 (by assumption) rfl (by assumption) ?_
          refine pw_iload_n h 2 d_X5_lay_62 rfl ?_
          refine pw_iald h d_X5_lay_63 (by assumption) (by assumption) ?_
          refine pw_aload_n h 0 d_X5_lay_64 rfl ?_
          refine pw_getR (j := (r + 14)) 5 h d_X5_lay_65 fd_RX5_26 (by assumption) rfl (by assumption) ?_
          refine pw_iload_n h 2 d_X5_lay_68 rfl ?_
          refine pw_iald h d_X5_lay_69 (by assumption) (by assumption) ?_
          refine pw_callV (As := [.int _, .int _]) h d_X5_lay_70 mf_X0_add mi_X0_add ml_RX5_54 ⟨by decide, by decide, by decide⟩ (by assumption) rfl rfl (Nat.le_of_ble_eq_true rfl) trivial (c_X0_add hB0 (n := cntS (selC c n) i) (by rw [u2_n1 (by omega), u2_n1 (by omega)]; exact ly_c) (by omega) _ _) ?_
          refine PKk.ret ?_
          rw [if_pos (by omega)]
          obtain ⟨v2_73, e2_73⟩ : ∃ z : Int32, z = v + (1) := ⟨_, rfl⟩
          refine pw_iinc (lv' := [(2, .int v2_73), (0, .ref r), (1, .int c)]) v2_73 h d_X5_lay_73 2 rfl e2_73.symm _ hml (by decide) rfl ?_
          refine pw_goto 10 h d_X5_lay_76 (by decide) ?_
          refine PW.perm [1, 2, 0] rfl ?_
          refine pw_mem ?_ rfl rfl (ih (i + 1) v2_73 (by omega) (by omega) (k_up e2_73 ev))
          unfold layI
          first
            | (rw [ly_s15, ly_s15]; refine ly_add.trans ?_; simp only [lyP, lyT, cntS, if_pos hsel, ly_c, ly_o (show r + 13 ≠ r + 1 by omega) (show r + 13 ≠ r + 2 by omega) (show r + 13 ≠ r + 3 by omega) (show r + 13 ≠ r + 15 by omega), ly_o (show r + 14 ≠ r + 1 by omega) (show r + 14 ≠ r + 2 by omega) (show r + 14 ≠ r + 3 by omega) (show r + 14 ≠ r + 15 by omega)])
            | (rw [ly_s15]; simp only [lyP, lyT, cntS, if_neg hsel])
  refine PW.perm [1, 2, 0] rfl ?_
  refine pw_mem ly_c0 rfl rfl (cut_10 (n + 1) 0 v2_9 (by omega) (by omega) e2_9)

set_option maxHeartbeats 4000000 in
set_option maxRecDepth 100000 in
theorem c_X5_pushOf {sh : Sh} {I : IM} {L : LM} {R : RM} {r : Nat} (hQ : RestF sh R r) {k : Nat} {v : Int32} (hx : px_ix v 7 k) (hs : 0 ≤ I (r + 15) k → (I (r + 15) k).toInt < 7) : PMet M_X5_pushOf [.ref r, .int v] sh I L R (pRet (some (.long (if 0 ≤ I (r + 15) k then L (r + 1 + 3) (I (r + 15) k).toNatClampNeg else 0))) sh I L R) := by
  refine PMet.of mf_X5_pushOf (Nat.le_of_ble_eq_true rfl) ?_
  intro X h hr hml
  have hml : (xc X).maxLocals = 2 := hml
  have h : PXok X RX5 cX5_pushOf 1 0 0 := h
  have hr : PXr X (some .long) "pushOf" _ 0 0 := hr
  have hQ0 := hQ
  obtain ⟨q0, q1, hB, q13, q14, q15, p2, p3, p4⟩ := hQ
  have hB0 := hB
  obtain ⟨f0, f1, f2, f3, f4, f5, f6, f7, f8, f9, f10, f11, g1, g2, g3, g9, g10, g11, g12, g13, g14, g15, g16⟩ := hB
  show PW X 0 [(0, .ref r), (1, .int v)] [] sh I L R 0 0
  refine pw_aload_n h 0 d_X5_pushOf_0 rfl ?_
  refine pw_getR (j := (r + 15)) 5 h d_X5_pushOf_1 fd_RX5_29 (by assumption) rfl (by assumption) ?_
  refine pw_iload_n h 1 d_X5_pushOf_4 rfl ?_
  refine pw_iald h d_X5_pushOf_5 (by assumption) (by assumption) ?_
  refine pw_if_lt 26 h d_X5_pushOf_6 (by decide) (fun c_6 => ?_) (fun c_6 => ?_)
  · skip
    refine pw_lconst (x := 0) h d_X5_pushOf_26 (by decide) ?_
    refine pw_lret h hr d_X5_pushOf_27 (by decide) (by decide) ?_
    first | exact ⟨by rw [if_pos h0], rfl, rfl, rfl, rfl⟩ | exact ⟨by rw [if_neg (fun q => nlt_of_ge q c_6)], rfl, rfl, rfl, rfl⟩
  · skip
    have h0 : 0 ≤ I (r + 15) k := ge_of_nlt c_6
    have hy : px_ix (I (r + 15) k) 7 (I (r + 15) k).toNatClampNeg := ⟨vp_in_iff.mpr ⟨Int32.le_iff_toInt_le.mp h0, hs h0⟩, rfl⟩
    refine pw_aload_n h 0 d_X5_pushOf_9 rfl ?_
    refine pw_getR (j := (r + 1)) 5 h d_X5_pushOf_10 fd_RX5_12 (by assumption) rfl (by assumption) ?_
    refine pw_getR (j := (r + 4)) 0 h d_X5_pushOf_13 fd_RX5_61 (by assumption) rfl (by assumption) ?_
    refine pw_aload_n h 0 d_X5_pushOf_16 rfl ?_
    refine pw_getR (j := (r + 15)) 5 h d_X5_pushOf_17 fd_RX5_29 (by assumption) rfl (by assumption) ?_
    refine pw_iload_n h 1 d_X5_pushOf_20 rfl ?_
    refine pw_iald h d_X5_pushOf_21 (by assumption) (by assumption) ?_
    refine pw_lald h d_X5_pushOf_22 (by assumption) hy ?_
    refine pw_goto 27 h d_X5_pushOf_23 (by decide) ?_
    refine pw_lret h hr d_X5_pushOf_27 (by decide) (by decide) ?_
    first | exact ⟨by rw [if_pos h0], rfl, rfl, rfl, rfl⟩ | exact ⟨by rw [if_neg (fun q => nlt_of_ge q c_6)], rfl, rfl, rfl, rfl⟩

set_option maxHeartbeats 4000000 in
set_option maxRecDepth 100000 in
theorem c_X5_marginOf {sh : Sh} {I : IM} {L : LM} {R : RM} {r : Nat} (hQ : RestF sh R r) {k m : Nat} {v : Int32} (hx : px_ix v 7 k) (hs : 0 ≤ I (r + 15) k → (I (r + 15) k).toInt < 7) (hm : I (r + 1) 0 = nI m) (h7 : m ≤ 7) {p' p0 p1 : Nat} (hp : px_ix (I (r + 13) k) 13 p') (hp0 : px_ix (I (r + 1 + 1) 0) 13 p0) (hp1 : px_ix (I (r + 1 + 1) 1) 13 p1) : PMet M_X5_marginOf [.ref r, .int v] sh I L R (pRet (some (.long (mrgL I L r m k p' p0 p1))) sh I L R) := by
  refine PMet.of mf_X5_marginOf (Nat.le_of_ble_eq_true rfl) ?_
  intro X h hr hml
  have hml : (xc X).maxLocals = 2 := hml
  have h : PXok X RX5 cX5_marginOf 3 0 0 := h
  have hr : PXr X (some .long) "marginOf" _ 0 0 := hr
  have hQ0 := hQ
  obtain ⟨q0, q1, hB, q13, q14, q15, p2, p3, p4⟩ := hQ
  have hB0 := hB
  obtain ⟨f0, f1, f2, f3, f4, f5, f6, f7, f8, f9, f10, f11, g1, g2, g3, g9, g10, g11, g12, g13, g14, g15, g16⟩ := hB
  show PW X 0 [(0, .ref r), (1, .int v)] [] sh I L R 0 0
  refine pw_aload_n h 0 d_X5_marginOf_0 rfl ?_
  refine pw_getR (j := (r + 15)) 5 h d_X5_marginOf_1 fd_RX5_29 (by assumption) rfl (by assumption) ?_
  refine pw_iload_n h 1 d_X5_marginOf_4 rfl ?_
  refine pw_iald h d_X5_marginOf_5 (by assumption) (by assumption) ?_
  refine pw_if_lt 17 h d_X5_marginOf_6 (by decide) (fun c_6 => ?_) (fun c_6 => ?_)
  · skip
    refine pw_aload_n h 0 d_X5_marginOf_17 rfl ?_
    refine pw_getR (j := (r + 1)) 5 h d_X5_marginOf_18 fd_RX5_12 (by assumption) rfl (by assumption) ?_
    refine pw_aload_n h 0 d_X5_marginOf_21 rfl ?_
    refine pw_getR (j := (r + 13)) 5 h d_X5_marginOf_22 fd_RX5_22 (by assumption) rfl (by assumption) ?_
    refine pw_iload_n h 1 d_X5_marginOf_25 rfl ?_
    refine pw_iald h d_X5_marginOf_26 (by assumption) (by assumption) ?_
    refine pw_callV (As := [.int _]) h d_X5_marginOf_27 mf_X0_height mi_X0_height ml_RX5_72 ⟨by decide, by decide, by decide⟩ (by assumption) rfl rfl (Nat.le_of_ble_eq_true rfl) trivial (c_X0_height hB0 hm h7 _ hp hp0 hp1) ?_
    refine PKk.ret ?_
    refine pw_aload_n h 0 d_X5_marginOf_30 rfl ?_
    refine pw_getR (j := (r + 14)) 5 h d_X5_marginOf_31 fd_RX5_26 (by assumption) rfl (by assumption) ?_
    refine pw_iload_n h 1 d_X5_marginOf_34 rfl ?_
    refine pw_iald h d_X5_marginOf_35 (by assumption) (by assumption) ?_
    refine pw_i2l h d_X5_marginOf_36 ?_
    refine pw_aload_n h 0 d_X5_marginOf_37 rfl ?_
    refine pw_getR (j := (r + 1)) 5 h d_X5_marginOf_38 fd_RX5_12 (by assumption) rfl (by assumption) ?_
    refine pw_callV (As := []) h d_X5_marginOf_41 mf_X0_heightBelow mi_X0_heightBelow ml_RX5_75 ⟨by decide, by decide, by decide⟩ (by assumption) rfl rfl (Nat.le_of_ble_eq_true rfl) trivial (c_X0_heightBelow hB0) ?_
    refine PKk.ret ?_
    refine pw_lmul h d_X5_marginOf_44 ?_
    refine pw_lsub h d_X5_marginOf_45 ?_
    refine pw_lret h hr d_X5_marginOf_46 (by decide) (by decide) ?_
    unfold mrgL
    first | exact ⟨by rw [if_pos (ge_of_nlt c_6), if_pos (ge_of_nlt c_6)], rfl, rfl, rfl, rfl⟩ | exact ⟨by rw [if_neg (fun q => nlt_of_ge q c_6)], rfl, rfl, rfl, rfl⟩
  · skip
    refine pw_aload_n h 0 d_X5_marginOf_9 rfl ?_
    refine pw_iload_n h 1 d_X5_marginOf_10 rfl ?_
    refine pw_callV (As := [.int _]) h d_X5_marginOf_11 mf_X5_pushOf mi_X5_pushOf ml_RX5_69 ⟨by decide, by decide, by decide⟩ (by assumption) rfl rfl (Nat.le_of_ble_eq_true rfl) trivial (c_X5_pushOf hQ0 hx hs) ?_
    refine PKk.ret ?_
    refine pw_goto 46 h d_X5_marginOf_14 (by decide) ?_
    refine pw_lret h hr d_X5_marginOf_46 (by decide) (by decide) ?_
    unfold mrgL
    first | exact ⟨by rw [if_pos (ge_of_nlt c_6), if_pos (ge_of_nlt c_6)], rfl, rfl, rfl, rfl⟩ | exact ⟨by rw [if_neg (fun q => nlt_of_ge q c_6)], rfl, rfl, rfl, rfl⟩
