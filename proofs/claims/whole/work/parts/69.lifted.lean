set_option maxHeartbeats 4000000 in
set_option maxRecDepth 100000 in
theorem c_X7_lifted {sh : Sh} {I : IM} {L : LM} {R : RM} (hCl : ClsF sh R) {A : LA} (hm : CLm I A) (a : okA A) (hr0 : CRest I L A) (v : Int32) : PMet M_X7_lifted [.ref 0, .int v] sh I L R (obs sh I L R A (fun ret => ifA (isW v 0 3) (rsA A v.toNatClampNeg (fun c => ret = some (.int (bitF (fun b => decide (qLd A v.toNatClampNeg (setA A c) b = 0)) (aN A)))) (ret = some (.int (-2)))) (ret = some (.int (-1))))) := by
  refine PMet.of mf_X7_lifted (Nat.le_of_ble_eq_true rfl) ?_
  intro X h hr hml
  have hml : (xc X).maxLocals = 4 := hml
  have h : PXok X RX7 cX7_lifted 7 0 0 := h
  have hr : PXr X (some .int) "lifted" _ 0 0 := hr
  have hCl := hCl
  obtain ⟨hC, hB21, hB33, hQ, hPl⟩ := id hCl
  have hC0 := hC
  obtain ⟨k0, r0, r1, r2, r4, r5, r6, r7, r8, r13, r15, r16, hL, k7, r7s, k8s, k12, k20, r20s, hSs, k71, k72⟩ := hC
  have hL0 := hL
  obtain ⟨f0, f1, f2, f3, f4, f5, g1, g2, g3, g4, g5⟩ := hL
  have hQ0 := hQ
  obtain ⟨q0, q1, hB45, q13, q14, q15, p2, p3, p4⟩ := id hQ
  have hn := hm.1
  have h6 := a.1
  have k46 := hB45.1
  have k21 := hB21.1
  have k33 := hB33.1
  show PW X 0 [(0, .ref 0), (1, .int v)] [] sh I L R 0 0
  refine pw_iload_n h 1 d_X7_lifted_0 rfl ?_
  refine pw_callS (As := [.int _]) h d_X7_lifted_1 mf_X7_isState st_yX7_isState ml_RX7_132 ⟨by decide, by decide, by decide⟩ rfl rfl (Nat.le_of_ble_eq_true rfl) c_X7_isState ?_
  refine PKk.ret ?_
  refine pw_if_ne 9 h d_X7_lifted_4 (by decide) (fun c_4 => ?_) (fun c_4 => ?_)
  · skip
    rw [bI_1, Bool.not_eq_false] at c_4
    have hx0 := isW_ix (N := 4) c_4 rfl (by decide)
    have hst := px_ix_lt hx0
    have est : v = nI v.toNatClampNeg := px_ix_eq hx0
    refine pw_aload_n h 0 d_X7_lifted_9 rfl ?_
    refine pw_iload_n h 1 d_X7_lifted_10 rfl ?_
    refine pw_callV (As := [.int _]) h d_X7_lifted_11 mf_X7_comesToRest mi_X7_comesToRest ml_RX7_189 ⟨by decide, by decide, by decide⟩ (by assumption) rfl rfl (Nat.le_of_ble_eq_true rfl) trivial (c_X7_comesToRest hCl hm a hr0 hst est) ?_
    intro ret1 sh1 I1 L1 R1 hp1
    obtain ⟨e1, eR, fK1, fL1, h9_1, hcr1, hres⟩ := hp1
    have e1 := e1.symm
    have eR := eR.symm
    subst e1
    subst eR
    obtain ⟨bb, hbb, hb1, hb2⟩ := ctr_b hcr1 hres
    subst hbb
    have hm1 : CLm I1 A := CLm_K hm fK1
    have hre1 : CRest I1 L1 A := CRest_of hst h9_1 hcr1
    refine ⟨rfl, ?_⟩
    refine pw_if_ne 20 h d_X7_lifted_14 (by decide) (fun c_14 => ?_) (fun c_14 => ?_)
    · skip
      rw [bI_1, Bool.not_eq_false] at c_14
      obtain ⟨c, hc, hS⟩ := hb1 c_14
      have h2 := fir_2 (by omega) hc
      refine pw_iconst (x := 0) h d_X7_lifted_20 (by decide) ?_
      refine pw_nmI (fun v2_21 e2_21 => ?_)
      refine pw_istore_n (lv' := [(2, .int v2_21), (0, .ref 0), (1, .int v)]) h d_X7_lifted_21 rfl _ hml (by decide) rfl ?_
      refine pw_iconst (x := 0) h d_X7_lifted_22 (by decide) ?_
      refine pw_nmI (fun v3_23 e3_23 => ?_)
      refine pw_istore_n (lv' := [(3, .int v3_23), (2, .int v2_21), (0, .ref 0), (1, .int v)]) h d_X7_lifted_23 rfl _ hml (by decide) rfl ?_
      have cut_24 : ∀ (N i : Nat) (x y : Int32), aN A < i + N → i ≤ aN A → y = nI i → x = bitF (fun b => decide (qLd A v.toNatClampNeg (setA A c) b = 0)) i → PW X 24 [(0, .ref 0), (1, .int v), (2, .int x), (3, .int y)] [] sh I1 L1 R 0 0 := by
        intro N
        induction N with
        | zero => intros; omega
        | succ N ih =>
          intro i x y hN hi ei ex
          refine pw_iload_n h 3 d_X7_lifted_24 rfl ?_
          refine pw_aload_n h 0 d_X7_lifted_25 rfl ?_
          refine pw_getR (j := 1) 7 h d_X7_lifted_26 fd_RX7_12 (by assumption) rfl (by assumption) ?_
          refine pw_getI 2 h d_X7_lifted_29 fd_RX7_105 (by assumption) rfl ?_
          refine pw_icmp_ge 60 h d_X7_lifted_32 (by decide) (fun c_32 => ?_) (fun c_32 => ?_)
          · skip
            have hge := k_ge ei hm1.1 (by omega) (by omega) c_32
            have e : aN A = i := by omega
            refine pw_iload_n h 2 d_X7_lifted_60 rfl ?_
            refine pw_iret h hr d_X7_lifted_61 rfl (by decide) (by decide) ?_
            exact ⟨rfl, rfl, frB_K fK1, frBL_K fL1, hre1, ifA_t c_4 (Or.inl ⟨c, hc, by rw [ex, e]⟩)⟩
          · skip
            have hlt := k_lt ei hm1.1 (by omega) (by omega) c_32
            have hx := k_ix ei (show i < 7 by omega) (by decide)
            refine pw_aload_n h 0 d_X7_lifted_35 rfl ?_
            refine pw_getR (j := 45) 7 h d_X7_lifted_36 fd_RX7_55 (by assumption) rfl (by assumption) ?_
            refine pw_iload_n h 3 d_X7_lifted_39 rfl ?_
            refine pw_callV (As := [.int _]) h d_X7_lifted_40 mf_X5_pushOf mi_X5_pushOf ml_RX7_192 ⟨by decide, by decide, by decide⟩ (by assumption) rfl rfl (Nat.le_of_ble_eq_true rfl) trivial (c_X5_pushOf hQ0 hx (rs_seat (okA_S a hst) hS _ hlt)) ?_
            refine PKk.ret ?_
            refine pw_lconst (x := 0) h d_X7_lifted_43 (by decide) ?_
            refine pw_lcmp h d_X7_lifted_44 ?_
            refine pw_if_ne 54 h d_X7_lifted_45 (by decide) (fun c_45 => ?_) (fun c_45 => ?_)
            · skip
              have hz : decide (qLd A v.toNatClampNeg (setA A c) i = 0) = false := decide_eq_false (fun q => c_45 (lc_eq.mpr ((psh_z a hst hS h2 hlt).mpr q)))
              obtain ⟨v3_54, e3_54⟩ : ∃ z : Int32, z = y + (1) := ⟨_, rfl⟩
              refine pw_iinc (lv' := [(3, .int v3_54), (0, .ref 0), (1, .int v), (2, .int x)]) v3_54 h d_X7_lifted_54 3 rfl e3_54.symm _ hml (by decide) rfl ?_
              refine pw_goto 24 h d_X7_lifted_57 (by decide) ?_
              refine PW.perm [1, 2, 3, 0] rfl ?_
              exact ih (i + 1) x v3_54 (by omega) (by omega) (k_up e3_54 ei) (by simp only [bitF]; first | (rw [if_pos hz, e2_53, ex, ei]) | (rw [if_neg (by rw [hz]; decide), ex]))
            · skip
              have hz : decide (qLd A v.toNatClampNeg (setA A c) i = 0) = true := decide_eq_true ((psh_z a hst hS h2 hlt).mp (lc_eq.mp c_45))
              refine pw_iload_n h 2 d_X7_lifted_48 rfl ?_
              refine pw_iconst (x := 1) h d_X7_lifted_49 (by decide) ?_
              refine pw_iload_n h 3 d_X7_lifted_50 rfl ?_
              refine pw_ishl h d_X7_lifted_51 ?_
              refine pw_ior h d_X7_lifted_52 ?_
              refine pw_nmI (fun v2_53 e2_53 => ?_)
              refine pw_istore_n (lv' := [(2, .int v2_53), (0, .ref 0), (1, .int v), (3, .int y)]) h d_X7_lifted_53 rfl _ hml (by decide) rfl ?_
              obtain ⟨v3_54, e3_54⟩ : ∃ z : Int32, z = y + (1) := ⟨_, rfl⟩
              refine pw_iinc (lv' := [(3, .int v3_54), (2, .int v2_53), (0, .ref 0), (1, .int v)]) v3_54 h d_X7_lifted_54 3 rfl e3_54.symm _ hml (by decide) rfl ?_
              refine pw_goto 24 h d_X7_lifted_57 (by decide) ?_
              refine PW.perm [2, 3, 1, 0] rfl ?_
              exact ih (i + 1) v2_53 v3_54 (by omega) (by omega) (k_up e3_54 ei) (by simp only [bitF]; first | (rw [if_pos hz, e2_53, ex, ei]) | (rw [if_neg (by rw [hz]; decide), ex]))
      refine PW.perm [2, 3, 1, 0] rfl ?_
      exact cut_24 (aN A + 1) 0 v2_21 v3_23 (by omega) (by omega) e3_23 e2_21
    · skip
      rw [bI_1] at c_14
      refine pw_bipush (x := (-2)) h d_X7_lifted_17 (by decide) ?_
      refine pw_iret h hr d_X7_lifted_19 rfl (by decide) (by decide) ?_
      exact ⟨rfl, rfl, frB_K fK1, frBL_K fL1, hre1, ifA_t c_4 (Or.inr ⟨hb2 c_14, rfl⟩)⟩
  · skip
    rw [bI_1] at c_4
    refine pw_iconst (x := (-1)) h d_X7_lifted_7 (by decide) ?_
    refine pw_iret h hr d_X7_lifted_8 rfl (by decide) (by decide) ?_
    exact ⟨rfl, rfl, frB_0, frBL_0, hr0, ifA_f c_4 rfl⟩

set_option maxHeartbeats 4000000 in
set_option maxRecDepth 100000 in
theorem c_X7_isWithinBounds {sh : Sh} {I : IM} {L : LM} {R : RM} (hCl : ClsF sh R) {A : LA} (hm : CLm I A) (a : okA A) {st : Nat} (hst : st < 4) {s : Nat → Bool} (hS : RestS I L 45 (aN A) s (aQ A) (hgt A st) (wgt A) (stf A)) : PMet M_X7_isWithinBounds [.ref 0] sh I L R (pRet (some (.int (bI (wbB I L (aN A))))) sh I L R) := by
  refine PMet.of mf_X7_isWithinBounds (Nat.le_of_ble_eq_true rfl) ?_
  intro X h hr hml
  have hml : (xc X).maxLocals = 6 := hml
  have h : PXok X RX7 cX7_isWithinBounds 2 0 0 := h
  have hr : PXr X (some .boolean) "isWithinBounds" _ 0 0 := hr
  have hCl := hCl
  obtain ⟨hC, hB21, hB33, hQ, hPl⟩ := id hCl
  have hC0 := hC
  obtain ⟨k0, r0, r1, r2, r4, r5, r6, r7, r8, r13, r15, r16, hL, k7, r7s, k8s, k12, k20, r20s, hSs, k71, k72⟩ := hC
  have hL0 := hL
  obtain ⟨f0, f1, f2, f3, f4, f5, g1, g2, g3, g4, g5⟩ := hL
  have hQ0 := hQ
  obtain ⟨q0, q1, hB45, q13, q14, q15, p2, p3, p4⟩ := id hQ
  have hn := hm.1
  have h6 := a.1
  have k46 := hB45.1
  have k21 := hB21.1
  have k33 := hB33.1
  show PW X 0 [(0, .ref 0)] [] sh I L R 0 0
  refine pw_aload_n h 0 d_X7_isWithinBounds_0 rfl ?_
  refine pw_getR (j := 45) 7 h d_X7_isWithinBounds_1 fd_RX7_55 (by assumption) rfl (by assumption) ?_
  refine pw_getR (j := 46) 5 h d_X7_isWithinBounds_4 fd_RX7_195 (by assumption) rfl (by assumption) ?_
  refine pw_getL 0 h d_X7_isWithinBounds_7 fd_RX7_196 (by assumption) rfl ?_
  refine pw_nmL (fun v1_10 e1_10 => ?_)
  refine pw_lstore_n (lv' := [(1, .long v1_10), (0, .ref 0)]) h d_X7_isWithinBounds_10 rfl _ hml (by decide) rfl ?_
  have eb : v1_10 = L 46 4 := e1_10
  refine pw_iconst (x := 0) h d_X7_isWithinBounds_11 (by decide) ?_
  refine pw_nmI (fun v3_12 e3_12 => ?_)
  refine pw_istore_n (lv' := [(3, .int v3_12), (1, .long v1_10), (0, .ref 0)]) h d_X7_isWithinBounds_12 rfl _ hml (by decide) rfl ?_
  have cut_13 : ∀ (N i : Nat) (y : Int32), aN A < i + N → i ≤ aN A → y = nI i → wbB I L i = true → PW X 13 [(0, .ref 0), (1, .long v1_10), (3, .int y)] [] sh I L R 0 0 := by
    intro N
    induction N with
    | zero => intros; omega
    | succ N ih =>
      intro i y hN hi ei hw
      refine pw_iload_n h 2 d_X7_isWithinBounds_13 rfl ?_
      refine pw_aload_n h 0 d_X7_isWithinBounds_14 rfl ?_
      refine pw_getR (j := 1) 7 h d_X7_isWithinBounds_15 fd_RX7_12 (by assumption) rfl (by assumption) ?_
      refine pw_getI 2 h d_X7_isWithinBounds_18 fd_RX7_105 (by assumption) rfl ?_
      refine pw_icmp_ge 68 h d_X7_isWithinBounds_21 (by decide) (fun c_21 => ?_) (fun c_21 => ?_)
      · skip
        have hge := k_ge ei hm.1 (by omega) (by omega) c_21
        have e : aN A = i := by omega
        refine pw_iconst (x := 1) h d_X7_isWithinBounds_68 (by decide) ?_
        refine pw_iret h hr d_X7_isWithinBounds_69 rfl (by decide) (by decide) ?_
        exact ⟨by rw [e, hw]; rfl, rfl, rfl, rfl, rfl⟩
      · skip
        have hlt := k_lt ei hm.1 (by omega) (by omega) c_21
        have hx := k_ix ei (show i < 7 by omega) (by decide)
        refine pw_aload_n h 0 d_X7_isWithinBounds_24 rfl ?_
        refine pw_getR (j := 45) 7 h d_X7_isWithinBounds_25 fd_RX7_55 (by assumption) rfl (by assumption) ?_
        refine pw_iload_n h 2 d_X7_isWithinBounds_28 rfl ?_
        refine pw_callV (As := [.int _]) h d_X7_isWithinBounds_29 mf_X5_pushOf mi_X5_pushOf ml_RX7_192 ⟨by decide, by decide, by decide⟩ (by assumption) rfl rfl (Nat.le_of_ble_eq_true rfl) trivial (c_X5_pushOf hQ0 hx (rs_seat (okA_S a hst) hS _ hlt)) ?_
        refine PKk.ret ?_
        refine pw_nmL (fun v4_32 e4_32 => ?_)
        refine pw_lstore (lv' := [(4, .long v4_32), (0, .ref 0), (1, .long v1_10), (3, .int y)]) h d_X7_isWithinBounds_32 _ hml (by decide) rfl ?_
        have ep : v4_32 = pshV I L 45 i := e4_32
        refine pw_lload h 0 d_X7_isWithinBounds_34 rfl ?_
        refine pw_aload_n h 1 d_X7_isWithinBounds_36 rfl ?_
        refine pw_getI 7 h d_X7_isWithinBounds_37 fd_RX7_66 (by assumption) rfl ?_
        refine pw_i2l h d_X7_isWithinBounds_40 ?_
        refine pw_lload_n h 2 d_X7_isWithinBounds_41 rfl ?_
        refine pw_lmul h d_X7_isWithinBounds_42 ?_
        refine pw_lcmp h d_X7_isWithinBounds_43 ?_
        refine pw_if_lt 60 h d_X7_isWithinBounds_44 (by decide) (fun c_44 => ?_) (fun c_44 => ?_)
        · skip
          rw [lc_lt, ep, eb] at c_44
          have hw : wbB I L (aN A) = false := allB_f (k := i) (by simp only [decide_eq_false (Int.not_le.mpr c_44), Bool.false_and]) _ hlt
          refine pw_iconst (x := 0) h d_X7_isWithinBounds_60 (by decide) ?_
          refine pw_iret h hr d_X7_isWithinBounds_61 rfl (by decide) (by decide) ?_
          exact ⟨by rw [hw]; rfl, rfl, rfl, rfl, rfl⟩
        · skip
          rw [lc_lt, ep, eb] at c_44
          refine pw_lload h 0 d_X7_isWithinBounds_47 rfl ?_
          refine pw_aload_n h 1 d_X7_isWithinBounds_49 rfl ?_
          refine pw_getI 7 h d_X7_isWithinBounds_50 fd_RX7_69 (by assumption) rfl ?_
          refine pw_i2l h d_X7_isWithinBounds_53 ?_
          refine pw_lload_n h 2 d_X7_isWithinBounds_54 rfl ?_
          refine pw_lmul h d_X7_isWithinBounds_55 ?_
          refine pw_lcmp h d_X7_isWithinBounds_56 ?_
          refine pw_if_le 62 h d_X7_isWithinBounds_57 (by decide) (fun c_57 => ?_) (fun c_57 => ?_)
          · skip
            rw [lc_le, ep, eb] at c_57
            obtain ⟨v3_62, e3_62⟩ : ∃ z : Int32, z = y + (1) := ⟨_, rfl⟩
            refine pw_iinc (lv' := [(3, .int v3_62), (4, .long v4_32), (0, .ref 0), (1, .long v1_10)]) v3_62 h d_X7_isWithinBounds_62 3 rfl e3_62.symm _ hml (by decide) rfl ?_
            refine pw_goto 13 h d_X7_isWithinBounds_65 (by decide) ?_
            refine PW.perm [2, 3, 0] rfl ?_
            exact ih (i + 1) v3_62 (by omega) (by omega) (k_up e3_62 ei) (by show (wbB I L i && _) = true; rw [hw]; simp only [Bool.true_and, decide_eq_true c_57, Bool.and_true]; exact decide_eq_true (Int.not_lt.mp c_44))
          · skip
            rw [lc_le, ep, eb] at c_57
            have hw : wbB I L (aN A) = false := allB_f (k := i) (by simp only [decide_eq_false c_57, Bool.and_false]) _ hlt
            refine pw_iconst (x := 0) h d_X7_isWithinBounds_60 (by decide) ?_
            refine pw_iret h hr d_X7_isWithinBounds_61 rfl (by decide) (by decide) ?_
            exact ⟨by rw [hw]; rfl, rfl, rfl, rfl, rfl⟩
  refine PW.perm [2, 1, 0] rfl ?_
  exact cut_13 (aN A + 1) 0 v3_12 (by omega) (by omega) e3_12 rfl
