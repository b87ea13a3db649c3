set_option maxHeartbeats 4000000 in
set_option maxRecDepth 100000 in
theorem c_X3_start {sh : Sh} {I : IM} {L : LM} {R : RM} (hP : PlanF sh R 61) (h1 : 1 < sh.length) (x y : Int32) : PMet M_X3_start [.ref 61, .ref 1, .int x, .int y] sh I L R (pRet none sh (u2 (u2 I 61 0 (-4)) 61 5 0) (u2 (u2 L 61 3 x.toInt64) 61 4 y.toInt64) (u2 R 61 2 (some 1))) := by
  refine PMet.of mf_X3_start (Nat.le_of_ble_eq_true rfl) ?_
  intro X h hr hml
  have hml : (xc X).maxLocals = 4 := hml
  have h : PXok X RX3 cX3_start 1 0 0 := h
  have hr : PXr X none "start" _ 0 0 := hr
  obtain ⟨p0, p1, p2, p3, p4, p5, p6, p7, p8, p9, r1, r7, r8, r9, r10, r11, r12, r13, r14⟩ := id hP
  show PW X 0 [(0, .ref 61), (1, .ref 1), (2, .int x), (3, .int y)] [] sh I L R 0 0
  refine pw_aload_n h 0 d_X3_start_0 rfl ?_
  refine pw_aload_n h 1 d_X3_start_1 rfl ?_
  refine pw_putR 3 h d_X3_start_2 fd_RX3_19 (by assumption) rfl rfl (fun _ => rfl) (fun _ => rfl) (by assumption) ?_
  refine pw_aload_n h 0 d_X3_start_5 rfl ?_
  refine pw_iload_n h 2 d_X3_start_6 rfl ?_
  refine pw_i2l h d_X3_start_7 ?_
  refine pw_putL 3 h d_X3_start_8 fd_RX3_23 (by assumption) rfl rfl rfl rfl ?_
  refine pw_aload_n h 0 d_X3_start_11 rfl ?_
  refine pw_iload_n h 3 d_X3_start_12 rfl ?_
  refine pw_i2l h d_X3_start_13 ?_
  refine pw_putL 3 h d_X3_start_14 fd_RX3_27 (by assumption) rfl rfl rfl rfl ?_
  refine pw_aload_n h 0 d_X3_start_17 rfl ?_
  refine pw_bipush (x := (-4)) h d_X3_start_18 (by decide) ?_
  refine pw_putI 3 h d_X3_start_20 fd_RX3_9 (by assumption) rfl rfl rfl rfl ?_
  refine pw_aload_n h 0 d_X3_start_23 rfl ?_
  refine pw_iconst (x := 0) h d_X3_start_24 (by decide) ?_
  refine pw_putI 3 h d_X3_start_25 fd_RX3_30 (by assumption) rfl rfl rfl rfl ?_
  refine pw_vret h hr d_X3_start_28 (by decide) (by decide) ?_
  exact ⟨rfl, rfl, rfl, rfl, rfl⟩

set_option maxHeartbeats 4000000 in
set_option maxRecDepth 100000 in
theorem c_X3_mayPlan {sh : Sh} {I : IM} {L : LM} {R : RM} (hP : PlanF sh R 61) (hl1 : R 61 2 = some 1) (hL : LineF sh R 1) {n : Nat} (hn : I 1 0 = nI n) (h6 : n ≤ 6) : PMet M_X3_mayPlan [.ref 61] sh I L R (pRet (some (.int (bI (decide (2 ≤ n ∧ n ≤ 4))))) sh I L R) := by
  refine PMet.of mf_X3_mayPlan (Nat.le_of_ble_eq_true rfl) ?_
  intro X h hr hml
  have hml : (xc X).maxLocals = 1 := hml
  have h : PXok X RX3 cX3_mayPlan 1 0 0 := h
  have hr : PXr X (some .boolean) "mayPlan" _ 0 0 := hr
  have hP0 := hP
  obtain ⟨p0, p1, p2, p3, p4, p5, p6, p7, p8, p9, r1, r7, r8, r9, r10, r11, r12, r13, r14⟩ := id hP
  obtain ⟨f0, f1, f2, f3, f4, f5, g1, g2, g3, g4, g5⟩ := id hL
  show PW X 0 [(0, .ref 61)] [] sh I L R 0 0
  refine pw_aload_n h 0 d_X3_mayPlan_0 rfl ?_
  refine pw_getR (j := 1) 3 h d_X3_mayPlan_1 fd_RX3_19 (by assumption) rfl (by assumption) ?_
  refine pw_ifnull h d_X3_mayPlan_4 ?_
  refine pw_aload_n h 0 d_X3_mayPlan_7 rfl ?_
  refine pw_getR (j := 1) 3 h d_X3_mayPlan_8 fd_RX3_19 (by assumption) rfl (by assumption) ?_
  refine pw_getI 2 h d_X3_mayPlan_11 fd_RX3_61 (by assumption) rfl ?_
  refine pw_iconst (x := 2) h d_X3_mayPlan_14 (by decide) ?_
  refine pw_icmp_lt 33 h d_X3_mayPlan_15 (by decide) (fun c_15 => ?_) (fun c_15 => ?_)
  · skip
    have hb : ¬ (2 ≤ n ∧ n ≤ 4) := by have := k_lt2 hn (n := 2) rfl (by omega) (by decide) c_15; omega
    refine pw_iconst (x := 0) h d_X3_mayPlan_33 (by decide) ?_
    refine pw_iret h hr d_X3_mayPlan_34 (by decide) (by decide) (by decide) ?_
    first | exact ⟨by rw [decide_eq_true hb]; rfl, rfl, rfl, rfl, rfl⟩ | exact ⟨by rw [decide_eq_false hb]; rfl, rfl, rfl, rfl, rfl⟩
  · skip
    have hb1 : 2 ≤ n := k_ge2 hn (n := 2) rfl (by omega) (by decide) c_15
    refine pw_aload_n h 0 d_X3_mayPlan_18 rfl ?_
    refine pw_getR (j := 1) 3 h d_X3_mayPlan_19 fd_RX3_19 (by assumption) rfl (by assumption) ?_
    refine pw_getI 2 h d_X3_mayPlan_22 fd_RX3_61 (by assumption) rfl ?_
    refine pw_iconst (x := 4) h d_X3_mayPlan_25 (by decide) ?_
    refine pw_icmp_gt 33 h d_X3_mayPlan_26 (by decide) (fun c_26 => ?_) (fun c_26 => ?_)
    · skip
      have hb : ¬ (2 ≤ n ∧ n ≤ 4) := by have := k_lt2 (i := 4) (n := n) rfl hn (by decide) (by omega) c_26; omega
      refine pw_iconst (x := 0) h d_X3_mayPlan_33 (by decide) ?_
      refine pw_iret h hr d_X3_mayPlan_34 (by decide) (by decide) (by decide) ?_
      first | exact ⟨by rw [decide_eq_true hb]; rfl, rfl, rfl, rfl, rfl⟩ | exact ⟨by rw [decide_eq_false hb]; rfl, rfl, rfl, rfl, rfl⟩
    · skip
      have hb : 2 ≤ n ∧ n ≤ 4 := by have := k_ge2 (i := 4) (n := n) rfl hn (by decide) (by omega) c_26; omega
      refine pw_iconst (x := 1) h d_X3_mayPlan_29 (by decide) ?_
      refine pw_goto 34 h d_X3_mayPlan_30 (by decide) ?_
      refine pw_iret h hr d_X3_mayPlan_34 (by decide) (by decide) (by decide) ?_
      first | exact ⟨by rw [decide_eq_true hb]; rfl, rfl, rfl, rfl, rfl⟩ | exact ⟨by rw [decide_eq_false hb]; rfl, rfl, rfl, rfl, rfl⟩

set_option maxHeartbeats 4000000 in
set_option maxRecDepth 100000 in
theorem c_X3_search {sh : Sh} {I : IM} {L : LM} {R : RM} (hP : PlanF sh R 61) (hl1 : R 61 2 = some 1) (hL : LineF sh R 1) {A : LA} (hm : CLm I A) (a : okA A) (h4 : aN A ≤ 4) (h2n : 2 ≤ aN A) {lo hi : Int} (v : Int32) (hc : PLc I L A lo hi (selM v)) (h0 : I 61 0 = -4) (hlo : 0 ≤ lo ∧ lo ≤ 600) (hhi : 0 ≤ hi ∧ hi ≤ 600) : PMet M_X3_search [.ref 61, .int v] sh I L R (seaP sh I L R A lo hi v) := by
  refine PMet.of mf_X3_search (Nat.le_of_ble_eq_true rfl) ?_
  intro X h hr hml
  have hml : (xc X).maxLocals = 4 := hml
  have h : PXok X RX3 cX3_search 4 0 0 := h
  have hr : PXr X none "search" _ 0 0 := hr
  have hP0 := hP
  obtain ⟨p0, p1, p2, p3, p4, p5, p6, p7, p8, p9, r1, r7, r8, r9, r10, r11, r12, r13, r14⟩ := id hP
  obtain ⟨f0, f1, f2, f3, f4, f5, g1, g2, g3, g4, g5⟩ := id hL
  have hn := hm.1
  have h6 := a.1
  have ho1 : ordK (aN A) ≤ 11 := (ord_ok (aN A) h4).1
  have h625 := five_pow h4
  show PW X 0 [(0, .ref 61), (1, .int v)] [] sh I L R 0 0
  refine pw_iconst (x := 1) h d_X3_search_0 (by decide) ?_
  refine pw_nmI (fun v2_1 e2_1 => ?_)
  refine pw_istore_n (lv' := [(2, .int v2_1), (0, .ref 61), (1, .int v)]) h d_X3_search_1 rfl _ hml (by decide) rfl ?_
  refine pw_iconst (x := 0) h d_X3_search_2 (by decide) ?_
  refine pw_nmI (fun v3_3 e3_3 => ?_)
  refine pw_istore_n (lv' := [(3, .int v3_3), (2, .int v2_1), (0, .ref 61), (1, .int v)]) h d_X3_search_3 rfl _ hml (by decide) rfl ?_
  have cut_4 : ∀ (N k : Nat) (x y : Int32), aN A < k + N → k ≤ aN A → y = nI k → x = nI (5 ^ k) → PW X 4 [(0, .ref 61), (1, .int v), (2, .int x), (3, .int y)] [] sh I L R 0 0 := by
    intro N
    induction N with
    | zero => intros; omega
    | succ N ih =>
      intro k x y hN hk ey ex
      refine pw_iload_n h 3 d_X3_search_4 rfl ?_
      refine pw_aload_n h 0 d_X3_search_5 rfl ?_
      refine pw_getR (j := 1) 3 h d_X3_search_6 fd_RX3_19 (by assumption) rfl (by assumption) ?_
      refine pw_getI 2 h d_X3_search_9 fd_RX3_61 (by assumption) rfl ?_
      refine pw_icmp_ge 25 h d_X3_search_12 (by decide) (fun c_12 => ?_) (fun c_12 => ?_)
      · skip
        have hge := k_ge ey hn (by omega) (by omega) c_12
        have e9 : k = aN A := by omega
        rw [e9] at ex
        refine pw_iconst (x := 0) h d_X3_search_25 (by decide) ?_
        refine pw_nmI (fun v3_26 e3_26 => ?_)
        refine pw_istore_n (lv' := [(3, .int v3_26), (0, .ref 61), (1, .int v), (2, .int x)]) h d_X3_search_26 rfl _ hml (by decide) rfl ?_
        have cut_27 : ∀ (N t : Nat) (tn : Int32) (I2 : IM) (L2 : LM), 5 ^ aN A < t + N → t ≤ 5 ^ aN A → tn = nI t → (∀ a k, a ≠ 62 → a ≠ 69 → (a ≠ 61 ∨ (k ≠ 0 ∧ k ≠ 5)) → I2 a k = I a k) → fr68 L L2 → PlR I2 (aN A) (plS A lo hi (selM v) t) → PW X 27 [(0, .ref 61), (1, .int v), (2, .int x), (3, .int tn)] [] sh I2 L2 R 0 0 := by
          intro N
          induction N with
          | zero => intros; omega
          | succ N iht =>
            intro t tn I2 L2 hNt htn et f2 g2 hpl
            have hm2 : CLm I2 A := CLm_fr hm (fun b k k1 k2 => f2 b k (by omega) (by omega) (by omega))
            have hc2 := PLc_fr hc (fun b k c => f2 b k (by omega) (by omega) (by omega)) (fun b k c => g2 b k (by omega))
            refine pw_iload_n h 3 d_X3_search_27 rfl ?_
            refine pw_iload_n h 2 d_X3_search_28 rfl ?_
            refine pw_icmp_ge 58 h d_X3_search_29 (by decide) (fun c_29 => ?_) (fun c_29 => ?_)
            · skip
              have hge : 5 ^ aN A ≤ t := k_ge et ex (by omega) (by omega) c_29
              have e9 : t = 5 ^ aN A := by omega
              rw [e9] at hpl
              refine pw_vret h hr d_X3_search_58 (by decide) (by decide) ?_
              exact ⟨rfl, rfl, rfl, g2, f2, hpl⟩
            · skip
              have htl : t < 5 ^ aN A := k_lt et ex (by omega) (by omega) c_29
              refine pw_aload_n h 0 d_X3_search_32 rfl ?_
              refine pw_iload_n h 3 d_X3_search_33 rfl ?_
              refine pw_callV (As := [.int _]) h d_X3_search_34 mf_X3_takeMoves mi_X3_takeMoves ml_RX3_119 ⟨by decide, by decide, by decide⟩ (by assumption) rfl rfl (Nat.le_of_ble_eq_true rfl) trivial (c_X3_takeMoves hP0 hl1 hL hm2 a h4 h2n (t := t) (by omega) et hpl) ?_
              intro ret3 sh3 I3 L3 R3 hp3
              obtain ⟨e1, eR, eL, f3, bb, ebb, hbb, hmv3⟩ := hp3
              have e1 := e1.symm
              have eR := eR.symm
              have eL := eL.symm
              subst e1
              subst eR
              subst eL
              subst ebb
              refine ⟨rfl, ?_⟩
              have hc3 := PLc_fr hc2 (fun a k c => f3 a k (by omega)) (fun _ _ _ => rfl)
              have hm3 : CLm I3 A := CLm_fr hm2 (fun b k k1 k2 => f3 b k (by omega))
              have hpl3 := PlR_fr hpl (fun b k c => f3 b k (by omega))
              refine pw_if_eq 52 h d_X3_search_37 (by decide) (fun c_37 => ?_) (fun c_37 => ?_)
              · skip
                rw [bI_1] at c_37
                obtain ⟨v3_52, e3_52⟩ : ∃ z : Int32, z = tn + (1) := ⟨_, rfl⟩
                refine pw_iinc (lv' := [(3, .int v3_52), (0, .ref 61), (1, .int v), (2, .int x)]) v3_52 h d_X3_search_52 3 rfl e3_52.symm _ hml (by decide) rfl ?_
                refine pw_goto 27 h d_X3_search_55 (by decide) ?_
                refine PW.perm [1, 2, 3, 0] rfl ?_
                first
                  | exact iht (t + 1) v3_52 _ _ (by omega) (by omega) (k_up e3_52 et) (fun b k c1 c2 c3 => (hk5.1 b k c1 c3).trans ((f3 b k c2).trans (f2 b k c1 c2 c3))) (fr68_t g2 f4) (by rw [plS_t ⟨(hbb.mp c_37).1, (hbb.mp c_37).2, hb4.mp c_45⟩]; exact hpl5)
                  | exact iht (t + 1) v3_52 _ _ (by omega) (by omega) (k_up e3_52 et) (fun b k c1 c2 c3 => (f3 b k c2).trans (f2 b k c1 c2 c3)) (fr68_t g2 f4) (by rw [plS_f (fun q => by have := hb4.mpr q.2.2; rw [this] at c_45; cases c_45)]; exact hpl3)
                  | exact iht (t + 1) v3_52 _ _ (by omega) (by omega) (k_up e3_52 et) (fun b k c1 c2 c3 => (f3 b k c2).trans (f2 b k c1 c2 c3)) g2 (by rw [plS_f (fun q => by have := hbb.mpr ⟨q.1, q.2.1⟩; rw [this] at c_37; cases c_37)]; exact hpl3)
              · skip
                rw [bI_1, Bool.not_eq_false] at c_37
                refine pw_aload_n h 0 d_X3_search_40 rfl ?_
                refine pw_iload_n h 1 d_X3_search_41 rfl ?_
                refine pw_callV (As := [.int _]) h d_X3_search_42 mf_X3_fitsInAll mi_X3_fitsInAll ml_RX3_122 ⟨by decide, by decide, by decide⟩ (by assumption) rfl rfl (Nat.le_of_ble_eq_true rfl) trivial (c_X3_fitsInAll hP0 hl1 hL hm3 a h4 h2n (hbb.mp c_37).1 v hc3 (hmv3 c_37) hlo hhi) ?_
                intro ret4 sh4 I4 L4 R4 hp4
                obtain ⟨e1, eR, eI, f4, b4, ebb, hb4⟩ := hp4
                have e1 := e1.symm
                have eR := eR.symm
                have eI := eI.symm
                subst e1
                subst eR
                subst eI
                subst ebb
                refine ⟨rfl, ?_⟩
                have hc4 := PLc_68 hc3 f4
                refine pw_if_eq 52 h d_X3_search_45 (by decide) (fun c_45 => ?_) (fun c_45 => ?_)
                · skip
                  rw [bI_1] at c_45
                  obtain ⟨v3_52, e3_52⟩ : ∃ z : Int32, z = tn + (1) := ⟨_, rfl⟩
                  refine pw_iinc (lv' := [(3, .int v3_52), (0, .ref 61), (1, .int v), (2, .int x)]) v3_52 h d_X3_search_52 3 rfl e3_52.symm _ hml (by decide) rfl ?_
                  refine pw_goto 27 h d_X3_search_55 (by decide) ?_
                  refine PW.perm [1, 2, 3, 0] rfl ?_
                  first
                    | exact iht (t + 1) v3_52 _ _ (by omega) (by omega) (k_up e3_52 et) (fun b k c1 c2 c3 => (hk5.1 b k c1 c3).trans ((f3 b k c2).trans (f2 b k c1 c2 c3))) (fr68_t g2 f4) (by rw [plS_t ⟨(hbb.mp c_37).1, (hbb.mp c_37).2, hb4.mp c_45⟩]; exact hpl5)
                    | exact iht (t + 1) v3_52 _ _ (by omega) (by omega) (k_up e3_52 et) (fun b k c1 c2 c3 => (f3 b k c2).trans (f2 b k c1 c2 c3)) (fr68_t g2 f4) (by rw [plS_f (fun q => by have := hb4.mpr q.2.2; rw [this] at c_45; cases c_45)]; exact hpl3)
                    | exact iht (t + 1) v3_52 _ _ (by omega) (by omega) (k_up e3_52 et) (fun b k c1 c2 c3 => (f3 b k c2).trans (f2 b k c1 c2 c3)) g2 (by rw [plS_f (fun q => by have := hbb.mpr ⟨q.1, q.2.1⟩; rw [this] at c_37; cases c_37)]; exact hpl3)
                · skip
                  rw [bI_1, Bool.not_eq_false] at c_45
                  refine pw_aload_n h 0 d_X3_search_48 rfl ?_
                  refine pw_callV (As := []) h d_X3_search_49 mf_X3_keepMoves mi_X3_keepMoves ml_RX3_125 ⟨by decide, by decide, by decide⟩ (by assumption) rfl rfl (Nat.le_of_ble_eq_true rfl) trivial (c_X3_keepMoves hP0 hl1 hL hm3 a h4 h2n (hmv3 c_37)) ?_
                  intro ret5 sh5 I5 L5 R5 hp5
                  obtain ⟨e0, e1, eR, eL, hk5⟩ := hp5
                  subst e0
                  have e1 := e1.symm
                  have eR := eR.symm
                  have eL := eL.symm
                  subst e1
                  subst eR
                  subst eL
                  refine ⟨rfl, ?_⟩
                  have hpl5 := kp_end hk5
                  obtain ⟨v3_52, e3_52⟩ : ∃ z : Int32, z = tn + (1) := ⟨_, rfl⟩
                  refine pw_iinc (lv' := [(3, .int v3_52), (0, .ref 61), (1, .int v), (2, .int x)]) v3_52 h d_X3_search_52 3 rfl e3_52.symm _ hml (by decide) rfl ?_
                  refine pw_goto 27 h d_X3_search_55 (by decide) ?_
                  refine PW.perm [1, 2, 3, 0] rfl ?_
                  first
                    | exact iht (t + 1) v3_52 _ _ (by omega) (by omega) (k_up e3_52 et) (fun b k c1 c2 c3 => (hk5.1 b k c1 c3).trans ((f3 b k c2).trans (f2 b k c1 c2 c3))) (fr68_t g2 f4) (by rw [plS_t ⟨(hbb.mp c_37).1, (hbb.mp c_37).2, hb4.mp c_45⟩]; exact hpl5)
                    | exact iht (t + 1) v3_52 _ _ (by omega) (by omega) (k_up e3_52 et) (fun b k c1 c2 c3 => (f3 b k c2).trans (f2 b k c1 c2 c3)) (fr68_t g2 f4) (by rw [plS_f (fun q => by have := hb4.mpr q.2.2; rw [this] at c_45; cases c_45)]; exact hpl3)
                    | exact iht (t + 1) v3_52 _ _ (by omega) (by omega) (k_up e3_52 et) (fun b k c1 c2 c3 => (f3 b k c2).trans (f2 b k c1 c2 c3)) g2 (by rw [plS_f (fun q => by have := hbb.mpr ⟨q.1, q.2.1⟩; rw [this] at c_37; cases c_37)]; exact hpl3)
        refine PW.perm [1, 2, 3, 0] rfl ?_
        exact cut_27 (5 ^ aN A + 1) 0 v3_26 _ _ (by omega) (Nat.zero_le _) e3_26 (fun _ _ _ _ _ => rfl) fr68_0 h0
      · skip
        have hlt := k_lt ey hn (by omega) (by omega) c_12
        refine pw_iload_n h 2 d_X3_search_15 rfl ?_
        refine pw_iconst (x := 5) h d_X3_search_16 (by decide) ?_
        refine pw_imul h d_X3_search_17 ?_
        refine pw_nmI (fun v2_18 e2_18 => ?_)
        refine pw_istore_n (lv' := [(2, .int v2_18), (0, .ref 61), (1, .int v), (3, .int y)]) h d_X3_search_18 rfl _ hml (by decide) rfl ?_
        obtain ⟨v3_19, e3_19⟩ : ∃ z : Int32, z = y + (1) := ⟨_, rfl⟩
        refine pw_iinc (lv' := [(3, .int v3_19), (2, .int v2_18), (0, .ref 61), (1, .int v)]) v3_19 h d_X3_search_19 3 rfl e3_19.symm _ hml (by decide) rfl ?_
        refine pw_goto 4 h d_X3_search_22 (by decide) ?_
        refine PW.perm [2, 3, 1, 0] rfl ?_
        exact ih (k + 1) v2_18 v3_19 (by omega) (by omega) (k_up e3_19 ey) (by rw [e2_18, ex, Nat.pow_succ]; exact pk_mul (5 ^ k) 5)
  refine PW.perm [2, 3, 1, 0] rfl ?_
  exact cut_4 (aN A + 1) 0 v2_1 v3_3 (by omega) (by omega) e3_3 e2_1

set_option maxHeartbeats 4000000 in
set_option maxRecDepth 100000 in
theorem c_X7_makePlan {sh : Sh} {I : IM} {L : LM} {R : RM} (hCl : ClsF sh R) {A : LA} (hm : CLm I A) (a : okA A) (hr0 : CRest I L A) {lo hi : Int} (hlh : LH I lo hi) (hcp : CPl I A lo hi) (hz : ∀ p, p < 13 → I 70 p = 0) (v : Int32) (hv : isW v 1 15 = true) : PMet M_X7_makePlan [.ref 0, .int v] sh I L R (mkpP sh I L R A lo hi v) := by
  refine PMet.of mf_X7_makePlan (Nat.le_of_ble_eq_true rfl) ?_
  intro X h hr hml
  have hml : (xc X).maxLocals = 3 := hml
  have h : PXok X RX7 cX7_makePlan 6 0 0 := h
  have hr : PXr X none "makePlan" _ 0 0 := hr
  obtain ⟨hC, hB21, hB33, hQ, hPl⟩ := id hCl
  have hC0 := hC
  obtain ⟨k0, r0, r1, r2, r4, r5, r6, r7, r8, r13, r15, r16, hL, k7, r7s, k8s, k12, k20, r20s, hSs, k71, k72⟩ := hC
  have hL0 := hL
  obtain ⟨f0, f1, f2, f3, f4, f5, g1, g2, g3, g4, g5⟩ := hL
  have hn := hm.1
  have h6 := a.1
  have k61 := hPl.1
  have h1 : 1 < sh.length := (List.getElem?_eq_some_iff.mp f0).1
  show PW X 0 [(0, .ref 0), (1, .int v)] [] sh I L R 0 0
  refine pw_aload_n h 0 d_X7_makePlan_0 rfl ?_
  refine pw_getI 7 h d_X7_makePlan_1 fd_RX7_79 (by assumption) rfl ?_
  refine pw_iload_n h 1 d_X7_makePlan_4 rfl ?_
  refine pw_icmp_ne 9 h d_X7_makePlan_5 (by decide) (fun c_5 => ?_) (fun c_5 => ?_)
  · skip
    refine pw_aload_n h 0 d_X7_makePlan_9 rfl ?_
    refine pw_getR (j := 61) 7 h d_X7_makePlan_10 fd_RX7_75 (by assumption) rfl (by assumption) ?_
    refine pw_aload_n h 0 d_X7_makePlan_13 rfl ?_
    refine pw_getR (j := 1) 7 h d_X7_makePlan_14 fd_RX7_12 (by assumption) rfl (by assumption) ?_
    refine pw_aload_n h 0 d_X7_makePlan_17 rfl ?_
    refine pw_getI 7 h d_X7_makePlan_18 fd_RX7_66 (by assumption) rfl ?_
    refine pw_aload_n h 0 d_X7_makePlan_21 rfl ?_
    refine pw_getI 7 h d_X7_makePlan_22 fd_RX7_69 (by assumption) rfl ?_
    refine pw_callV (As := [.ref 1, .int _, .int _]) h d_X7_makePlan_25 mf_X3_start mi_X3_start ml_RX7_328 ⟨by decide, by decide, by decide⟩ (by assumption) rfl rfl (Nat.le_of_ble_eq_true rfl) trivial (c_X3_start hPl h1 _ _) ?_
    intro ret1 sh1 I1 L1 R1 hp1
    obtain ⟨e0, e1, eI, eL, eR⟩ := hp1
    subst e0
    have e1 := e1.symm
    subst e1
    refine ⟨rfl, ?_⟩
    have hCl1 := ClsF_p hCl
    have hl61 : u2 R 61 2 (some 1) 61 2 = some 1 := u2_s
    have hRo : ∀ a k, (a ≠ 61 ∨ k ≠ 2) → u2 R 61 2 (some 1) a k = R a k := fun a k c => by unfold u2; rw [if_neg (by omega)]
    rw [← eR] at hCl1 hl61 hRo
    have o1 : ∀ a k, (a ≠ 61 ∨ (k ≠ 0 ∧ k ≠ 5)) → I1 a k = I a k := fun a k c => by rw [eI]; unfold u2; rw [if_neg (by omega), if_neg (by omega)]
    have m1 : I1 61 0 = -4 := by rw [eI, u2_n2 (by decide), u2_s]
    have lo1 : (L1 61 3).toInt = lo := by rw [eL, u2_n2 (by decide), u2_s, Int32.toInt_toInt64]; exact hlh.1
    have hi1 : (L1 61 4).toInt = hi := by rw [eL, u2_s, Int32.toInt_toInt64]; exact hlh.2.1
    have ol1 : ∀ a k, a ≠ 61 → L1 a k = L a k := fun a k c => by rw [eL, u2_n1 c, u2_n1 c]
    clear eI eL eR
    have hm1 : CLm I1 A := CLm_fr hm (fun a k h1 h2 => o1 a k (by omega))
    have hre1 : CRest I1 L1 A := CRest_fr hr0 (fun a k h1 h2 => o1 a k (by omega)) (fun k hk => o1 0 k (by omega)) (fun a k h1 h2 => ol1 a k (by omega))
    have hz1 : ∀ p, p < 13 → I1 70 p = 0 := fun p hp => by rw [o1 70 p (Or.inl (by decide))]; exact hz p hp
    obtain ⟨hC, hB21, hB33, hQ, hPl⟩ := id hCl1
    have hC0 := hC
    obtain ⟨k0, r0, r1, r2, r4, r5, r6, r7, r8, r13, r15, r16, hL, k7, r7s, k8s, k12, k20, r20s, hSs, k71, k72⟩ := hC
    have hL0 := hL
    obtain ⟨f0, f1, f2, f3, f4, f5, g1, g2, g3, g4, g5⟩ := hL
    refine pw_aload_n h 0 d_X7_makePlan_28 rfl ?_
    refine pw_getR (j := 61) 7 h d_X7_makePlan_29 fd_RX7_75 (by assumption) rfl (by assumption) ?_
    refine pw_callV (As := []) h d_X7_makePlan_32 mf_X3_mayPlan mi_X3_mayPlan ml_RX7_331 ⟨by decide, by decide, by decide⟩ (by assumption) rfl rfl (Nat.le_of_ble_eq_true rfl) trivial (c_X3_mayPlan hPl hl61 hL0 hm1.1 h6) ?_
    refine PKk.ret ?_
    refine pw_if_eq 102 h d_X7_makePlan_35 (by decide) (fun c_35 => ?_) (fun c_35 => ?_)
    · skip
      rw [bI_1] at c_35
      have hb4 : ¬ (2 ≤ aN A ∧ aN A ≤ 4) := of_decide_eq_false c_35
      refine pw_aload_n h 0 d_X7_makePlan_102 rfl ?_
      refine pw_iload_n h 1 d_X7_makePlan_103 rfl ?_
      refine pw_putI 7 h d_X7_makePlan_104 fd_RX7_79 (by assumption) rfl rfl rfl rfl ?_
      refine pw_vret h hr d_X7_makePlan_107 (by decide) (by decide) ?_
      first
        | exact mkp_end hRo (I6 := I6) (L6 := L6) (fun b k c1 c2 => by rw [f6s b k (by omega) (by omega) (by omega), f4q b k (by omega) (by omega), f3 b k (by omega) (by omega) (by omega) (by omega), o2 b k (by omega), o1 b k (by omega)]) (fun b k c => by rw [g6 b k (by omega), g4q b k (by omega) (by omega) (by omega), g3 b k (by omega) (by omega) (by omega), ol1 b k (by omega)]) (Or.inl (by rw [f6s 0 9 (by decide) (by decide) (by decide), f4q 0 9 (by decide) (by decide)]; exact n3)) (Or.inl ⟨hb4.2, hpl6⟩)
        | exact mkp_end hRo (I6 := I1) (L6 := L1) (fun b k c1 c2 => o1 b k (by omega)) (fun b k c => ol1 b k (by omega)) hre1 (mkp_no hb4 hv m1)
    · skip
      rw [bI_1, Bool.not_eq_false] at c_35
      have hb4 : 2 ≤ aN A ∧ aN A ≤ 4 := of_decide_eq_true c_35
      refine pw_aload_n h 0 d_X7_makePlan_38 rfl ?_
      refine pw_iconst (x := (-1)) h d_X7_makePlan_39 (by decide) ?_
      refine pw_putI 7 h d_X7_makePlan_40 fd_RX7_59 (by assumption) rfl rfl rfl rfl ?_
      obtain ⟨I2, eI2⟩ : ∃ I2, I2 = u2 I1 0 9 (-1) := ⟨_, rfl⟩
      refine pw_mem (I' := I2) eI2.symm rfl rfl ?_
      have o2 : ∀ a k, (a ≠ 0 ∨ k ≠ 9) → I2 a k = I1 a k := fun a k c => by rw [eI2]; unfold u2; rw [if_neg (by omega)]
      have n2 : I2 0 9 = -1 := by rw [eI2]; exact u2_s
      have hm2 : CLm I2 A := CLm_fr hm1 (fun a k h1 h2 => o2 a k (by omega))
      have hz2 : ∀ p, p < 13 → I2 70 p = 0 := fun p hp => by rw [o2 70 p (Or.inl (by decide))]; exact hz1 p hp
      refine pw_aload_n h 0 d_X7_makePlan_43 rfl ?_
      refine pw_getR (j := 61) 7 h d_X7_makePlan_44 fd_RX7_75 (by assumption) rfl (by assumption) ?_
      refine pw_aload_n h 0 d_X7_makePlan_47 rfl ?_
      refine pw_getR (j := 45) 7 h d_X7_makePlan_48 fd_RX7_55 (by assumption) rfl (by assumption) ?_
      refine pw_callV (As := [.ref 45]) h d_X7_makePlan_51 mf_X3_prepareSets mi_X3_prepareSets ml_RX7_334 ⟨by decide, by decide, by decide⟩ (by assumption) rfl rfl (Nat.le_of_ble_eq_true rfl) trivial (c_X3_prepareSets hPl hl61 hL0 hQ hm2 a hb4.2 hb4.1 hz2) ?_
      intro ret3 sh3 I3 L3 R3 hp3
      obtain ⟨e0, e1, eR, f3, g3, hs3, hM3, hG3⟩ := hp3
      subst e0
      have e1 := e1.symm
      have eR := eR.symm
      subst e1
      subst eR
      refine ⟨rfl, ?_⟩
      have lo3 : (L3 61 3).toInt = lo := by rw [g3 61 3 (by decide) (by decide) (by decide)]; exact lo1
      have hi3 : (L3 61 4).toInt = hi := by rw [g3 61 4 (by decide) (by decide) (by decide)]; exact hi1
      have hm3 : CLm I3 A := CLm_T hm2 f3
      have m3 : I3 61 0 = -4 := by rw [f3 61 0 (by decide) (by decide) (by decide) (by decide), o2 _ _ (by decide)]; exact m1
      have n3 : I3 0 9 = -1 := by rw [f3 0 9 (by decide) (by decide) (by decide) (by decide)]; exact n2
      refine pw_iconst (x := 0) h d_X7_makePlan_54 (by decide) ?_
      refine pw_nmI (fun v2_55 e2_55 => ?_)
      refine pw_istore_n (lv' := [(2, .int v2_55), (0, .ref 0), (1, .int v)]) h d_X7_makePlan_55 rfl _ hml (by decide) rfl ?_
      have cut_56 : ∀ (N i : Nat) (y : Int32) (I4 : IM) (L4 : LM), 4 < i + N → i ≤ 4 → y = nI i → frQ I3 I4 → (∀ a k, (a < 46 ∨ 57 < a) → a ≠ 65 → a ≠ 66 → L4 a k = L3 a k) → PMem I4 L4 (aQ A) (aN A) (ordK (aN A)) → (∀ st, st < i → selM v st = true → PBs L4 (aQ A) (hgt A st) (wgt A) (stf A) (aN A) st (ordK (aN A))) → PW X 56 [(0, .ref 0), (1, .int v), (2, .int y)] [] sh I4 L4 R1 0 0 := by
        intro N
        induction N with
        | zero => intros; omega
        | succ N ih =>
          intro i y I4 L4 hN hi4 ei f4q g4q hM4 hB4
          have hm4 : CLm I4 A := CLm_Q hm3 f4q
          have hs4 := PSet_fr hs3 f4q
          have hG4 : ∀ k, k < aN A → PGk L4 (aQ A) (stf A) (aN A) k (ordK (aN A)) := fun k hk j hj b hb => by rw [g4q 67 _ (by omega) (by decide) (by decide)]; exact hG3 k hk j hj b hb
          have lo4 : (L4 61 3).toInt = lo := by rw [g4q 61 3 (by decide) (by decide) (by decide)]; exact lo3
          have hi4r : (L4 61 4).toInt = hi := by rw [g4q 61 4 (by decide) (by decide) (by decide)]; exact hi3
          have m4 : I4 61 0 = -4 := by rw [f4q 61 0 (by decide) (by decide)]; exact m3
          refine pw_iload_n h 2 d_X7_makePlan_56 rfl ?_
          refine pw_iconst (x := 4) h d_X7_makePlan_57 (by decide) ?_
          refine pw_icmp_ge 94 h d_X7_makePlan_58 (by decide) (fun c_58 => ?_) (fun c_58 => ?_)
          · skip
            have hge := k_ge ei (n := 4) rfl (by omega) (by omega) c_58
            have e9 : i = 4 := by omega
            subst e9
            have hi4 := hi4r
            refine pw_aload_n h 0 d_X7_makePlan_94 rfl ?_
            refine pw_getR (j := 61) 7 h d_X7_makePlan_95 fd_RX7_75 (by assumption) rfl (by assumption) ?_
            refine pw_iload_n h 1 d_X7_makePlan_98 rfl ?_
            refine pw_callV (As := [.int _]) h d_X7_makePlan_99 mf_X3_search mi_X3_search ml_RX7_342 ⟨by decide, by decide, by decide⟩ (by assumption) rfl rfl (Nat.le_of_ble_eq_true rfl) trivial (c_X3_search hPl hl61 hL0 hm4 a hb4.2 hb4.1 v (PLc_of hs4 hM4 hG4 hB4 lo4 hi4) m4 ⟨hlh.2.2.1, hlh.2.2.2.1⟩ hlh.2.2.2.2) ?_
            intro ret6 sh6 I6 L6 R6 hp6
            obtain ⟨e0, e1, eR, g6, f6s, hpl6⟩ := hp6
            subst e0
            have e1 := e1.symm
            have eR := eR.symm
            subst e1
            subst eR
            refine ⟨rfl, ?_⟩
            refine pw_aload_n h 0 d_X7_makePlan_102 rfl ?_
            refine pw_iload_n h 1 d_X7_makePlan_103 rfl ?_
            refine pw_putI 7 h d_X7_makePlan_104 fd_RX7_79 (by assumption) rfl rfl rfl rfl ?_
            refine pw_vret h hr d_X7_makePlan_107 (by decide) (by decide) ?_
            first
              | exact mkp_end hRo (I6 := I6) (L6 := L6) (fun b k c1 c2 => by rw [f6s b k (by omega) (by omega) (by omega), f4q b k (by omega) (by omega), f3 b k (by omega) (by omega) (by omega) (by omega), o2 b k (by omega), o1 b k (by omega)]) (fun b k c => by rw [g6 b k (by omega), g4q b k (by omega) (by omega) (by omega), g3 b k (by omega) (by omega) (by omega), ol1 b k (by omega)]) (Or.inl (by rw [f6s 0 9 (by decide) (by decide) (by decide), f4q 0 9 (by decide) (by decide)]; exact n3)) (Or.inl ⟨hb4.2, hpl6⟩)
              | exact mkp_end hRo (I6 := I1) (L6 := L1) (fun b k c1 c2 => o1 b k (by omega)) (fun b k c => ol1 b k (by omega)) hre1 (mkp_no hb4 hv m1)
          · skip
            have hst := k_lt ei (n := 4) rfl (by omega) (by omega) c_58
            have hxi := k_ix ei (show i < 4 by omega) (by decide)
            have hri := r7s i hst
            refine pw_iload_n h 1 d_X7_makePlan_61 rfl ?_
            refine pw_iload_n h 2 d_X7_makePlan_62 rfl ?_
            refine pw_ishr h d_X7_makePlan_63 ?_
            refine pw_iconst (x := 1) h d_X7_makePlan_64 (by decide) ?_
            refine pw_iand h d_X7_makePlan_65 ?_
            refine pw_iconst (x := 1) h d_X7_makePlan_66 (by decide) ?_
            refine pw_icmp_ne 88 h d_X7_makePlan_67 (by decide) (fun c_67 => ?_) (fun c_67 => ?_)
            · skip
              have hsel : selM v i = false := by rw [ei] at c_67; exact decide_eq_false c_67
              obtain ⟨v2_88, e2_88⟩ : ∃ z : Int32, z = y + (1) := ⟨_, rfl⟩
              refine pw_iinc (lv' := [(2, .int v2_88), (0, .ref 0), (1, .int v)]) v2_88 h d_X7_makePlan_88 2 rfl e2_88.symm _ hml (by decide) rfl ?_
              refine pw_goto 56 h d_X7_makePlan_91 (by decide) ?_
              refine PW.perm [1, 2, 0] rfl ?_
              first
                | exact ih (i + 1) v2_88 _ _ (by omega) (by omega) (k_up e2_88 ei) (frQ_t f4q f5q) (fun b k c1 c2 c3 => (g5q b k c1 c2 (Or.inl c3)).trans (g4q b k c1 c2 c3)) hM5 (fun st hs hb => by
                    by_cases cs : st = i
                    · rw [cs]; exact hB5
                    · exact PBs_o (by omega) hb4.2 cs (hB4 st (by omega) hb) g5q)
                | exact ih (i + 1) v2_88 _ _ (by omega) (by omega) (k_up e2_88 ei) f4q g4q hM4 (fun st hs hb => by
                    by_cases cs : st = i
                    · rw [cs] at hb; rw [hsel] at hb; cases hb
                    · exact hB4 st (by omega) hb)
            · skip
              have hsel : selM v i = true := by rw [ei] at c_67; exact decide_eq_true c_67
              refine pw_aload_n h 0 d_X7_makePlan_70 rfl ?_
              refine pw_getR (j := 61) 7 h d_X7_makePlan_71 fd_RX7_75 (by assumption) rfl (by assumption) ?_
              refine pw_aload_n h 0 d_X7_makePlan_74 rfl ?_
              refine pw_getR (j := 45) 7 h d_X7_makePlan_75 fd_RX7_55 (by assumption) rfl (by assumption) ?_
              refine pw_aload_n h 0 d_X7_makePlan_78 rfl ?_
              refine pw_getR (j := 7) 7 h d_X7_makePlan_79 fd_RX7_18 (by assumption) rfl (by assumption) ?_
              refine pw_iload_n h 2 d_X7_makePlan_82 rfl ?_
              refine pw_aald (z := (8 + i)) h d_X7_makePlan_83 (by assumption) rfl rfl (t0 := 4) (fun _ => rfl) (by assumption) (by assumption) ?_
              refine pw_iload_n h 2 d_X7_makePlan_84 rfl ?_
              refine pw_callV (As := [.ref 45, .ref (8 + i), .int _]) h d_X7_makePlan_85 mf_X3_prepareState mi_X3_prepareState ml_RX7_338 ⟨by decide, by decide, by decide⟩ (by assumption) rfl rfl (Nat.le_of_ble_eq_true rfl) trivial (c_X3_prepareState hPl hl61 hL0 hQ hm4 a hb4.2 hb4.1 hs4 hM4 hst (k8s i hst) ei) ?_
              intro ret5 sh5 I5 L5 R5 hp5
              obtain ⟨e0, e1, eR, f5q, g5q, hM5, hB5⟩ := hp5
              subst e0
              have e1 := e1.symm
              have eR := eR.symm
              subst e1
              subst eR
              refine ⟨rfl, ?_⟩
              obtain ⟨v2_88, e2_88⟩ : ∃ z : Int32, z = y + (1) := ⟨_, rfl⟩
              refine pw_iinc (lv' := [(2, .int v2_88), (0, .ref 0), (1, .int v)]) v2_88 h d_X7_makePlan_88 2 rfl e2_88.symm _ hml (by decide) rfl ?_
              refine pw_goto 56 h d_X7_makePlan_91 (by decide) ?_
              refine PW.perm [1, 2, 0] rfl ?_
              first
                | exact ih (i + 1) v2_88 _ _ (by omega) (by omega) (k_up e2_88 ei) (frQ_t f4q f5q) (fun b k c1 c2 c3 => (g5q b k c1 c2 (Or.inl c3)).trans (g4q b k c1 c2 c3)) hM5 (fun st hs hb => by
                    by_cases cs : st = i
                    · rw [cs]; exact hB5
                    · exact PBs_o (by omega) hb4.2 cs (hB4 st (by omega) hb) g5q)
                | exact ih (i + 1) v2_88 _ _ (by omega) (by omega) (k_up e2_88 ei) f4q g4q hM4 (fun st hs hb => by
                    by_cases cs : st = i
                    · rw [cs] at hb; rw [hsel] at hb; cases hb
                    · exact hB4 st (by omega) hb)
      refine PW.perm [1, 2, 0] rfl ?_
      exact cut_56 5 0 v2_55 _ _ (by omega) (by omega) e2_55 frQ_0 (fun _ _ _ _ _ => rfl) hM3 (fun st hs => absurd hs (Nat.not_lt_zero _))
  · skip
    have ep : I 0 14 = v := by first | exact c_5 | exact c_5.symm
    refine pw_vret h hr d_X7_makePlan_8 (by decide) (by decide) ?_
    exact ⟨rfl, rfl, fun _ _ _ => rfl, fun _ _ _ _ => rfl, fun _ _ _ => rfl, hr0, ep, mkp_same hcp ep hv⟩

set_option maxHeartbeats 4000000 in
set_option maxRecDepth 100000 in
theorem c_X7_plan {sh : Sh} {I : IM} {L : LM} {R : RM} (hCl : ClsF sh R) {A : LA} (hm : CLm I A) (a : okA A) (hr0 : CRest I L A) {lo hi : Int} (hlh : LH I lo hi) (hcp : CPl I A lo hi) (hz : ∀ p, p < 13 → I 70 p = 0) (v : Int32) : PMet M_X7_plan [.ref 0, .int v] sh I L R (plnP sh I L R A lo hi (fun ret => ifA (isW v 1 15) (ret = some (.int (planV A lo hi v))) (ret = some (.int (-1))))) := by
  refine PMet.of mf_X7_plan (Nat.le_of_ble_eq_true rfl) ?_
  intro X h hr hml
  have hml : (xc X).maxLocals = 2 := hml
  have h : PXok X RX7 cX7_plan 7 0 0 := h
  have hr : PXr X (some .int) "plan" _ 0 0 := hr
  obtain ⟨hC, hB21, hB33, hQ, hPl⟩ := id hCl
  have hC0 := hC
  obtain ⟨k0, r0, r1, r2, r4, r5, r6, r7, r8, r13, r15, r16, hL, k7, r7s, k8s, k12, k20, r20s, hSs, k71, k72⟩ := hC
  have hL0 := hL
  obtain ⟨f0, f1, f2, f3, f4, f5, g1, g2, g3, g4, g5⟩ := hL
  have hn := hm.1
  have h6 := a.1
  have k61 := hPl.1
  show PW X 0 [(0, .ref 0), (1, .int v)] [] sh I L R 0 0
  refine pw_iload_n h 1 d_X7_plan_0 rfl ?_
  refine pw_iconst (x := 1) h d_X7_plan_1 (by decide) ?_
  refine pw_bipush (x := 15) h d_X7_plan_2 (by decide) ?_
  refine pw_callS (As := [.int _, .int _, .int _]) h d_X7_plan_4 mf_X7_isWithin st_yX7_isWithin ml_RX7_97 ⟨by decide, by decide, by decide⟩ rfl rfl (Nat.le_of_ble_eq_true rfl) c_X7_isWithin ?_
  refine PKk.ret ?_
  refine pw_if_ne 12 h d_X7_plan_7 (by decide) (fun c_7 => ?_) (fun c_7 => ?_)
  · skip
    rw [bI_1, Bool.not_eq_false] at c_7
    refine pw_aload_n h 0 d_X7_plan_12 rfl ?_
    refine pw_iload_n h 1 d_X7_plan_13 rfl ?_
    refine pw_callV (As := [.int _]) h d_X7_plan_14 mf_X7_makePlan mi_X7_makePlan ml_RX7_264 ⟨by decide, by decide, by decide⟩ (by assumption) rfl rfl (Nat.le_of_ble_eq_true rfl) trivial (c_X7_makePlan hCl hm a hr0 hlh hcp hz v c_7) ?_
    intro ret1 sh1 I1 L1 R1 hp1
    obtain ⟨e0, e1, hRo, o1, ol1, hre1, e14, hpo⟩ := hp1
    subst e0
    have e1 := e1.symm
    subst e1
    refine ⟨rfl, ?_⟩
    have hCl1 : ClsF sh R1 := ClsF_R hCl (fun a k _ c => hRo a k c)
    obtain ⟨hC, hB21, hB33, hQ, hPl⟩ := id hCl1
    obtain ⟨p0, p1, p2, p3, p4, p5, p6, p7, p8, p9, y1, y7, y8, y9, y10, y11, y12, y13, y14⟩ := id hPl
    have hC0 := hC
    obtain ⟨k0, r0, r1, r2, r4, r5, r6, r7, r8, r13, r15, r16, hL, k7, r7s, k8s, k12, k20, r20s, hSs, k71, k72⟩ := hC
    have hL0 := hL
    obtain ⟨f0, f1, f2, f3, f4, f5, g1, g2, g3, g4, g5⟩ := hL
    refine pw_aload_n h 0 d_X7_plan_17 rfl ?_
    refine pw_getR (j := 61) 7 h d_X7_plan_18 fd_RX7_75 (by assumption) rfl (by assumption) ?_
    refine pw_getI 3 h d_X7_plan_21 fd_RX7_267 (by assumption) rfl ?_
    refine pw_iret h hr d_X7_plan_24 rfl (by decide) (by decide) ?_
    exact ⟨rfl, hRo, o1, ol1, hre1, Or.inr ⟨by rw [e14]; exact c_7, by rw [e14]; exact hpo⟩, ifA_t c_7 (by rw [planV_ok hpo])⟩
  · skip
    rw [bI_1] at c_7
    refine pw_iconst (x := (-1)) h d_X7_plan_10 (by decide) ?_
    refine pw_iret h hr d_X7_plan_11 rfl (by decide) (by decide) ?_
    exact ⟨rfl, fun _ _ _ => rfl, fun _ _ _ _ => rfl, fun _ _ _ => rfl, hr0, hcp, ifA_f c_7 rfl⟩

set_option maxHeartbeats 4000000 in
set_option maxRecDepth 100000 in
theorem c_X7_move {sh : Sh} {I : IM} {L : LM} {R : RM} (hCl : ClsF sh R) {A : LA} (hm : CLm I A) (a : okA A) (hr0 : CRest I L A) {lo hi : Int} (hlh : LH I lo hi) (hcp : CPl I A lo hi) (hz : ∀ p, p < 13 → I 70 p = 0) (v b : Int32) : PMet M_X7_move [.ref 0, .int v, .int b] sh I L R (plnP sh I L R A lo hi (fun ret => ifA (isW v 1 15 && isBn (aN A) b) (movA A lo hi v b.toNatClampNeg ret) (ret = some (.int (-101))))) := by
  refine PMet.of mf_X7_move (Nat.le_of_ble_eq_true rfl) ?_
  intro X h hr hml
  have hml : (xc X).maxLocals = 3 := hml
  have h : PXok X RX7 cX7_move 7 0 0 := h
  have hr : PXr X (some .int) "move" _ 0 0 := hr
  obtain ⟨hC, hB21, hB33, hQ, hPl⟩ := id hCl
  have hC0 := hC
  obtain ⟨k0, r0, r1, r2, r4, r5, r6, r7, r8, r13, r15, r16, hL, k7, r7s, k8s, k12, k20, r20s, hSs, k71, k72⟩ := hC
  have hL0 := hL
  obtain ⟨f0, f1, f2, f3, f4, f5, g1, g2, g3, g4, g5⟩ := hL
  have hn := hm.1
  have h6 := a.1
  have k61 := hPl.1
  show PW X 0 [(0, .ref 0), (1, .int v), (2, .int b)] [] sh I L R 0 0
  refine pw_iload_n h 1 d_X7_move_0 rfl ?_
  refine pw_iconst (x := 1) h d_X7_move_1 (by decide) ?_
  refine pw_bipush (x := 15) h d_X7_move_2 (by decide) ?_
  refine pw_callS (As := [.int _, .int _, .int _]) h d_X7_move_4 mf_X7_isWithin st_yX7_isWithin ml_RX7_97 ⟨by decide, by decide, by decide⟩ rfl rfl (Nat.le_of_ble_eq_true rfl) c_X7_isWithin ?_
  refine PKk.ret ?_
  refine pw_if_eq 18 h d_X7_move_7 (by decide) (fun c_7 => ?_) (fun c_7 => ?_)
  · skip
    rw [bI_1] at c_7
    refine pw_bipush (x := (-101)) h d_X7_move_18 (by decide) ?_
    refine pw_iret h hr d_X7_move_20 rfl (by decide) (by decide) ?_
    exact ⟨rfl, fun _ _ _ => rfl, fun _ _ _ _ => rfl, fun _ _ _ => rfl, hr0, hcp, ifA_f (by first | (simp only [c_7, Bool.false_and]; done) | (simp only [isBn, c_7, c_15, Bool.and_false]; done)) rfl⟩
  · skip
    rw [bI_1, Bool.not_eq_false] at c_7
    refine pw_aload_n h 0 d_X7_move_10 rfl ?_
    refine pw_iload_n h 2 d_X7_move_11 rfl ?_
    refine pw_callV (As := [.int _]) h d_X7_move_12 mf_X7_isBearing mi_X7_isBearing ml_RX7_115 ⟨by decide, by decide, by decide⟩ (by assumption) rfl rfl (Nat.le_of_ble_eq_true rfl) trivial (c_X7_isBearing _ (by assumption) (by assumption) (by assumption) hn h6) ?_
    refine PKk.ret ?_
    refine pw_if_ne 21 h d_X7_move_15 (by decide) (fun c_15 => ?_) (fun c_15 => ?_)
    · skip
      rw [bI_1, Bool.not_eq_false] at c_15
      refine pw_aload_n h 0 d_X7_move_21 rfl ?_
      refine pw_iload_n h 1 d_X7_move_22 rfl ?_
      refine pw_callV (As := [.int _]) h d_X7_move_23 mf_X7_makePlan mi_X7_makePlan ml_RX7_264 ⟨by decide, by decide, by decide⟩ (by assumption) rfl rfl (Nat.le_of_ble_eq_true rfl) trivial (c_X7_makePlan hCl hm a hr0 hlh hcp hz v c_7) ?_
      intro ret1 sh1 I1 L1 R1 hp1
      obtain ⟨e0, e1, hRo, o1, ol1, hre1, e14, hpo⟩ := hp1
      subst e0
      have e1 := e1.symm
      subst e1
      refine ⟨rfl, ?_⟩
      have hCl1 : ClsF sh R1 := ClsF_R hCl (fun a k _ c => hRo a k c)
      obtain ⟨hC, hB21, hB33, hQ, hPl⟩ := id hCl1
      obtain ⟨p0, p1, p2, p3, p4, p5, p6, p7, p8, p9, y1, y7, y8, y9, y10, y11, y12, y13, y14⟩ := id hPl
      have hbl := isBn_ix (n := aN A) (N := aN A) c_15 (Nat.le_refl _)
      have hbn := px_ix_lt hbl
      have eb : b = nI b.toNatClampNeg := px_ix_eq hbl
      have hmo := mov_ok hpo hbn
      have hC0 := hC
      obtain ⟨k0, r0, r1, r2, r4, r5, r6, r7, r8, r13, r15, r16, hL, k7, r7s, k8s, k12, k20, r20s, hSs, k71, k72⟩ := hC
      have hL0 := hL
      obtain ⟨f0, f1, f2, f3, f4, f5, g1, g2, g3, g4, g5⟩ := hL
      refine pw_aload_n h 0 d_X7_move_26 rfl ?_
      refine pw_getR (j := 61) 7 h d_X7_move_27 fd_RX7_75 (by assumption) rfl (by assumption) ?_
      refine pw_getI 3 h d_X7_move_30 fd_RX7_267 (by assumption) rfl ?_
      refine pw_if_lt 41 h d_X7_move_33 (by decide) (fun c_33 => ?_) (fun c_33 => ?_)
      · skip
        refine pw_bipush (x := (-104)) h d_X7_move_41 (by decide) ?_
        refine pw_iret h hr d_X7_move_43 rfl (by decide) (by decide) ?_
        refine ⟨rfl, hRo, o1, ol1, hre1, Or.inr ⟨by rw [e14]; exact c_7, by rw [e14]; exact hpo⟩, ifA_t (by simp only [isBn, c_7, c_15, Bool.and_self]) ?_⟩
        first | exact hmo.1 c_33 | exact hmo.2.2 hb4
      · skip
        refine pw_iload_n h 2 d_X7_move_36 rfl ?_
        refine pw_iconst (x := 4) h d_X7_move_37 (by decide) ?_
        refine pw_icmp_lt 44 h d_X7_move_38 (by decide) (fun c_38 => ?_) (fun c_38 => ?_)
        · skip
          have hb4 : b.toNatClampNeg < 4 := k_lt2 eb (n := 4) rfl (by omega) (by decide) c_38
          have hxb := k_ix eb hb4 (by decide)
          refine pw_aload_n h 0 d_X7_move_44 rfl ?_
          refine pw_getR (j := 61) 7 h d_X7_move_45 fd_RX7_75 (by assumption) rfl (by assumption) ?_
          refine pw_getR (j := 62) 3 h d_X7_move_48 fd_RX7_270 (by assumption) rfl (by assumption) ?_
          refine pw_iload_n h 2 d_X7_move_51 rfl ?_
          refine pw_iald h d_X7_move_52 (by assumption) (by assumption) ?_
          refine pw_iret h hr d_X7_move_53 rfl (by decide) (by decide) ?_
          exact ⟨rfl, hRo, o1, ol1, hre1, Or.inr ⟨by rw [e14]; exact c_7, by rw [e14]; exact hpo⟩, ifA_t (by simp only [isBn, c_7, c_15, Bool.and_self]) (hmo.2.1 c_33)⟩
        · skip
          have hb4 : 4 ≤ b.toNatClampNeg := k_ge2 eb (n := 4) rfl (by omega) (by decide) c_38
          refine pw_bipush (x := (-104)) h d_X7_move_41 (by decide) ?_
          refine pw_iret h hr d_X7_move_43 rfl (by decide) (by decide) ?_
          refine ⟨rfl, hRo, o1, ol1, hre1, Or.inr ⟨by rw [e14]; exact c_7, by rw [e14]; exact hpo⟩, ifA_t (by simp only [isBn, c_7, c_15, Bool.and_self]) ?_⟩
          first | exact hmo.1 c_33 | exact hmo.2.2 hb4
    · skip
      rw [bI_1] at c_15
      refine pw_bipush (x := (-101)) h d_X7_move_18 (by decide) ?_
      refine pw_iret h hr d_X7_move_20 rfl (by decide) (by decide) ?_
      exact ⟨rfl, fun _ _ _ => rfl, fun _ _ _ _ => rfl, fun _ _ _ => rfl, hr0, hcp, ifA_f (by first | (simp only [c_7, Bool.false_and]; done) | (simp only [isBn, c_7, c_15, Bool.and_false]; done)) rfl⟩
