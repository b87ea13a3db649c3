set_option maxHeartbeats 4000000 in
set_option maxRecDepth 100000 in
theorem c_X7_standing {sh : Sh} {I : IM} {L : LM} {R : RM} (hC : ClassF sh R) {s' b' p' : Nat} {s b : Int32} (hs : px_ix s 4 s') (hb : px_ix b 6 b') (hp : px_ix (I 2 b') 13 p') : PMet M_X7_standing [.ref 0, .int s, .int b] sh I L R (pRet (some (.int (I 3 b' + I (8 + s') p'))) sh I L R) := by
  refine PMet.of mf_X7_standing (Nat.le_of_ble_eq_true rfl) ?_
  intro X h hr hml
  have hml : (xc X).maxLocals = 3 := hml
  have h : PXok X RX7 cX7_standing 1 0 0 := h
  have hr : PXr X (some .int) "standing" _ 0 0 := hr
  have hC0 := hC
  obtain ⟨k0, r0, r1, r2, r4, r5, r6, r7, r8, r13, r15, r16, hL, k7, r7s, k8s, k12, k20, r20s, hSs, k71, k72⟩ := hC
  have hL0 := hL
  obtain ⟨f0, f1, f2, f3, f4, f5, g1, g2, g3, g4, g5⟩ := hL
  have hz := r7s _ (px_ix_lt hs)
  have hq := k8s _ (px_ix_lt hs)
  show PW X 0 [(0, .ref 0), (1, .int s), (2, .int b)] [] sh I L R 0 0
  refine pw_aload_n h 0 d_X7_standing_0 rfl ?_
  refine pw_getR (j := 1) 7 h d_X7_standing_1 fd_RX7_12 (by assumption) rfl (by assumption) ?_
  refine pw_getR (j := 3) 2 h d_X7_standing_4 fd_RX7_122 (by assumption) rfl (by assumption) ?_
  refine pw_iload_n h 2 d_X7_standing_7 rfl ?_
  refine pw_iald h d_X7_standing_8 (by assumption) (by assumption) ?_
  refine pw_aload_n h 0 d_X7_standing_9 rfl ?_
  refine pw_getR (j := 7) 7 h d_X7_standing_10 fd_RX7_18 (by assumption) rfl (by assumption) ?_
  refine pw_iload_n h 1 d_X7_standing_13 rfl ?_
  refine pw_aald (z := (8 + s')) h d_X7_standing_14 (by assumption) rfl rfl (t0 := 4) (fun _ => rfl) (by assumption) (by assumption) ?_
  refine pw_aload_n h 0 d_X7_standing_15 rfl ?_
  refine pw_getR (j := 1) 7 h d_X7_standing_16 fd_RX7_12 (by assumption) rfl (by assumption) ?_
  refine pw_getR (j := 2) 2 h d_X7_standing_19 fd_RX7_166 (by assumption) rfl (by assumption) ?_
  refine pw_iload_n h 2 d_X7_standing_22 rfl ?_
  refine pw_iald h d_X7_standing_23 (by assumption) (by assumption) ?_
  refine pw_iald h d_X7_standing_24 (by assumption) (by assumption) ?_
  refine pw_iadd h d_X7_standing_25 ?_
  refine pw_iret h hr d_X7_standing_26 rfl (by decide) (by decide) ?_
  exact ⟨rfl, rfl, rfl, rfl, rfl⟩

set_option maxHeartbeats 4000000 in
set_option maxRecDepth 100000 in
theorem c_X7_putBearings {sh : Sh} {I : IM} {L : LM} {R : RM} (hC : ClassF sh R) (hQ : RestF sh R 45) {s' fr t n0 : Nat} {s a z : Int32} (hs : px_ix s 4 s') (ea : a = nI fr) (ez : z = nI t) (hft : fr ≤ t) (ht6 : t ≤ 6) (h0 : I 45 1 = nI n0) (h7 : n0 + (t - fr) ≤ 7) {q : Nat → Nat} (hq : ∀ k, k < t → px_ix (I 2 k) 13 (q k)) : PMet M_X7_putBearings [.ref 0, .int s, .int a, .int z] sh I L R (pRet none sh (pbI I s' fr n0 q (t - fr)) L R) := by
  refine PMet.of mf_X7_putBearings (Nat.le_of_ble_eq_true rfl) ?_
  intro X h hr hml
  have hml : (xc X).maxLocals = 5 := hml
  have h : PXok X RX7 cX7_putBearings 2 0 0 := h
  have hr : PXr X none "putBearings" _ 0 0 := hr
  have hC0 := hC
  obtain ⟨k0, r0, r1, r2, r4, r5, r6, r7, r8, r13, r15, r16, hL, k7, r7s, k8s, k12, k20, r20s, hSs, k71, k72⟩ := hC
  have hL0 := hL
  obtain ⟨f0, f1, f2, f3, f4, f5, g1, g2, g3, g4, g5⟩ := hL
  obtain ⟨q0, q1, -⟩ := id hQ
  have hs4 := px_ix_lt hs
  show PW X 0 [(0, .ref 0), (1, .int s), (2, .int a), (3, .int z)] [] sh I L R 0 0
  refine pw_iload_n h 2 d_X7_putBearings_0 rfl ?_
  refine pw_nmI (fun v4_1 e4_1 => ?_)
  refine pw_istore (lv' := [(4, .int v4_1), (0, .ref 0), (1, .int s), (2, .int a), (3, .int z)]) h d_X7_putBearings_1 _ hml (by decide) rfl ?_
  have cut_3 : ∀ (N k : Nat) (v : Int32), t - fr < k + N → k ≤ t - fr → v = nI (fr + k) → PW X 3 [(0, .ref 0), (1, .int s), (3, .int z), (4, .int v)] [] sh (pbI I s' fr n0 q k) L R 0 0 := by
    intro N
    induction N with
    | zero => intros; omega
    | succ N ih =>
      intro k v hN hi ev
      refine pw_iload h 3 d_X7_putBearings_3 rfl ?_
      refine pw_iload_n h 2 d_X7_putBearings_5 rfl ?_
      refine pw_icmp_ge 39 h d_X7_putBearings_6 (by decide) (fun c_6 => ?_) (fun c_6 => ?_)
      · skip
        have hge : t ≤ fr + k := k_ge ev ez (by omega) (by omega) c_6
        have e : t - fr = k := by omega
        refine pw_vret h hr d_X7_putBearings_39 (by decide) (by decide) ?_
        rw [e]
        exact pRet_self
      · skip
        have hlt : fr + k < t := k_lt ev ez (by omega) (by omega) c_6
        have hx := k_ix ev (show fr + k < 6 by omega) (by decide)
        refine pw_aload_n h 0 d_X7_putBearings_9 rfl ?_
        refine pw_getR (j := 45) 7 h d_X7_putBearings_10 fd_RX7_55 (by assumption) rfl (by assumption) ?_
        refine pw_aload_n h 0 d_X7_putBearings_13 rfl ?_
        refine pw_getR (j := 1) 7 h d_X7_putBearings_14 fd_RX7_12 (by assumption) rfl (by assumption) ?_
        refine pw_getR (j := 2) 2 h d_X7_putBearings_17 fd_RX7_166 (by assumption) rfl (by assumption) ?_
        refine pw_iload h 3 d_X7_putBearings_20 rfl ?_
        refine pw_iald h d_X7_putBearings_22 (by assumption) (by assumption) ?_
        refine pw_aload_n h 0 d_X7_putBearings_23 rfl ?_
        refine pw_iload_n h 1 d_X7_putBearings_24 rfl ?_
        refine pw_iload h 3 d_X7_putBearings_25 rfl ?_
        refine pw_callV (As := [.int _, .int _]) h d_X7_putBearings_27 mf_X7_standing mi_X7_standing ml_RX7_324 ⟨by decide, by decide, by decide⟩ (by assumption) rfl rfl (Nat.le_of_ble_eq_true rfl) trivial (c_X7_standing hC0 (s' := s') (b' := fr + k) (p' := q (fr + k)) hs hx (by rw [pbI_o (by decide) (by decide) (by decide)]; exact hq _ hlt)) ?_
        refine PKk.ret ?_
        refine pw_callV (As := [.int _, .int _]) h d_X7_putBearings_30 mf_X5_put mi_X5_put ml_RX7_254 ⟨by decide, by decide, by decide⟩ (by assumption) rfl rfl (Nat.le_of_ble_eq_true rfl) trivial (c_X5_put hQ (n := n0 + k) pbI_c (by omega) _ _) ?_
        refine PKk.ret ?_
        rw [if_pos (by omega)]
        obtain ⟨v4_33, e4_33⟩ : ∃ z : Int32, z = v + (1) := ⟨_, rfl⟩
        refine pw_iinc (lv' := [(4, .int v4_33), (0, .ref 0), (1, .int s), (3, .int z)]) v4_33 h d_X7_putBearings_33 3 rfl e4_33.symm _ hml (by decide) rfl ?_
        refine pw_goto 3 h d_X7_putBearings_36 (by decide) ?_
        refine PW.perm [1, 2, 3, 0] rfl ?_
        refine pw_mem ?_ rfl rfl (ih (k + 1) v4_33 (by omega) (by omega) (k_up e4_33 ev))
        exact pbI_s (pbI_o (by decide) (by decide) (by decide)) (by rw [pbI_o (by decide) (by decide) (by decide), pbI_o (by omega) (by omega) (by omega)])
  refine PW.perm [1, 2, 4, 0] rfl ?_
  refine pw_mem (pbI_0 h0) rfl rfl (cut_3 (t - fr + 1) 0 v4_1 (by omega) (by omega) (by rw [e4_1, ea]; rfl))

set_option maxHeartbeats 4000000 in
set_option maxRecDepth 100000 in
theorem c_X5_holds {sh : Sh} {I : IM} {L : LM} {R : RM} {r : Nat} (hQ : RestF sh R r) {n : Nat} (hn : I r 1 = nI n) (h7 : n ≤ 7) {m : Nat} (hm : I (r + 1) 0 = nI m) (hm7 : m ≤ 7) (hse : ∀ k, k < n → 0 ≤ I (r + 15) k → (I (r + 15) k).toInt < 7) {q : Nat → Nat} (hq : ∀ k, k < n → px_ix (I (r + 13) k) 13 (q k)) {p0 p1 : Nat} (hp0 : px_ix (I (r + 1 + 1) 0) 13 p0) (hp1 : px_ix (I (r + 1 + 1) 1) 13 p1) : PMet M_X5_holds [.ref r] sh I L R (pRet (some (.int (bI (allB (fun k => decide (0 ≤ (L (r + 1 + 3) k).toInt)) m && allB (fun k => decide (0 ≤ I (r + 15) k) || decide (0 ≤ (mrgL I L r m k (q k) p0 p1).toInt)) n)))) sh I L R) := by
  refine PMet.of mf_X5_holds (Nat.le_of_ble_eq_true rfl) ?_
  intro X h hr hml
  have hml : (xc X).maxLocals = 2 := hml
  have h : PXok X RX5 cX5_holds 4 0 0 := h
  have hr : PXr X (some .boolean) "holds" _ 0 0 := hr
  have hQ0 := hQ
  obtain ⟨q0, q1, hB, q13, q14, q15, p2, p3, p4⟩ := hQ
  have hB0 := hB
  obtain ⟨f0, f1, f2, f3, f4, f5, f6, f7, f8, f9, f10, f11, g1, g2, g3, g9, g10, g11, g12, g13, g14, g15, g16⟩ := hB
  show PW X 0 [(0, .ref r)] [] sh I L R 0 0
  refine pw_iconst (x := 0) h d_X5_holds_0 (by decide) ?_
  refine pw_nmI (fun v1_1 e1_1 => ?_)
  refine pw_istore_n (lv' := [(1, .int v1_1), (0, .ref r)]) h d_X5_holds_1 rfl _ hml (by decide) rfl ?_
  have cut_2 : ∀ (N i : Nat) (v : Int32), m < i + N → i ≤ m → v = nI i → allB (fun k => decide (0 ≤ (L (r + 1 + 3) k).toInt)) i = true → PW X 2 [(0, .ref r), (1, .int v)] [] sh I L R 0 0 := by
    intro N
    induction N with
    | zero => intros; omega
    | succ N ih =>
      intro i v hN hi ev ha
      refine pw_iload_n h 1 d_X5_holds_2 rfl ?_
      refine pw_aload_n h 0 d_X5_holds_3 rfl ?_
      refine pw_getR (j := (r + 1)) 5 h d_X5_holds_4 fd_RX5_12 (by assumption) rfl (by assumption) ?_
      refine pw_getI 0 h d_X5_holds_7 fd_RX5_53 (by assumption) rfl ?_
      refine pw_icmp_ge 35 h d_X5_holds_10 (by decide) (fun c_10 => ?_) (fun c_10 => ?_)
      · skip
        have hge := k_ge ev hm (by omega) (by omega) c_10
        have e : m = i := by omega
        subst e
        refine pw_iconst (x := 0) h d_X5_holds_35 (by decide) ?_
        refine pw_nmI (fun v1_36 e1_36 => ?_)
        refine pw_istore_n (lv' := [(1, .int v1_36), (0, .ref r)]) h d_X5_holds_36 rfl _ hml (by decide) rfl ?_
        have cut_37 : ∀ (N i : Nat) (v : Int32), n < i + N → i ≤ n → v = nI i → allB (fun k => decide (0 ≤ I (r + 15) k) || decide (0 ≤ (mrgL I L r m k (q k) p0 p1).toInt)) i = true → PW X 37 [(0, .ref r), (1, .int v)] [] sh I L R 0 0 := by
          intro N
          induction N with
          | zero => intros; omega
          | succ N ih =>
            intro i v hN hi ev hb
            refine pw_iload_n h 1 d_X5_holds_37 rfl ?_
            refine pw_aload_n h 0 d_X5_holds_38 rfl ?_
            refine pw_getI 5 h d_X5_holds_39 fd_RX5_18 (by assumption) rfl ?_
            refine pw_icmp_ge 72 h d_X5_holds_42 (by decide) (fun c_42 => ?_) (fun c_42 => ?_)
            · skip
              have hge := k_ge ev hn (by omega) (by omega) c_42
              have e : n = i := by omega
              subst e
              refine pw_iconst (x := 1) h d_X5_holds_72 (by decide) ?_
              refine pw_iret h hr d_X5_holds_73 rfl (by decide) (by decide) ?_
              exact ⟨congrArg (fun z => some (Value.int z)) (bI_t (by rw [ha, hb]; rfl)), rfl, rfl, rfl, rfl⟩
            · skip
              have hlt := k_lt ev hn (by omega) (by omega) c_42
              have hx := k_ix ev (show i < 7 by omega) (by decide)
              refine pw_aload_n h 0 d_X5_holds_45 rfl ?_
              refine pw_getR (j := (r + 15)) 5 h d_X5_holds_46 fd_RX5_29 (by assumption) rfl (by assumption) ?_
              refine pw_iload_n h 1 d_X5_holds_49 rfl ?_
              refine pw_iald h d_X5_holds_50 (by assumption) (by assumption) ?_
              refine pw_if_ge 66 h d_X5_holds_51 (by decide) (fun c_51 => ?_) (fun c_51 => ?_)
              · skip
                obtain ⟨v1_66, e1_66⟩ : ∃ z : Int32, z = v + (1) := ⟨_, rfl⟩
                refine pw_iinc (lv' := [(1, .int v1_66), (0, .ref r)]) v1_66 h d_X5_holds_66 1 rfl e1_66.symm _ hml (by decide) rfl ?_
                refine pw_goto 37 h d_X5_holds_69 (by decide) ?_
                refine PW.perm [1, 0] rfl ?_
                exact ih (i + 1) v1_66 (by omega) (by omega) (k_up e1_66 ev) (by simp only [allB, hb, Bool.true_and]; first | (rw [decide_eq_true c_51, Bool.true_or]) | (rw [decide_eq_true c_61, Bool.or_true]))
              · skip
                refine pw_aload_n h 0 d_X5_holds_54 rfl ?_
                refine pw_iload_n h 1 d_X5_holds_55 rfl ?_
                refine pw_callV (As := [.int _]) h d_X5_holds_56 mf_X5_marginOf mi_X5_marginOf ml_RX5_65 ⟨by decide, by decide, by decide⟩ (by assumption) rfl rfl (Nat.le_of_ble_eq_true rfl) trivial (c_X5_marginOf hQ0 hx (hse i hlt) hm hm7 (hq i hlt) hp0 hp1) ?_
                refine PKk.ret ?_
                refine pw_lconst (x := 0) h d_X5_holds_59 (by decide) ?_
                refine pw_lcmp h d_X5_holds_60 ?_
                refine pw_if_ge 66 h d_X5_holds_61 (by decide) (fun c_61 => ?_) (fun c_61 => ?_)
                · skip
                  rw [lz_ge] at c_61
                  obtain ⟨v1_66, e1_66⟩ : ∃ z : Int32, z = v + (1) := ⟨_, rfl⟩
                  refine pw_iinc (lv' := [(1, .int v1_66), (0, .ref r)]) v1_66 h d_X5_holds_66 1 rfl e1_66.symm _ hml (by decide) rfl ?_
                  refine pw_goto 37 h d_X5_holds_69 (by decide) ?_
                  refine PW.perm [1, 0] rfl ?_
                  exact ih (i + 1) v1_66 (by omega) (by omega) (k_up e1_66 ev) (by simp only [allB, hb, Bool.true_and]; first | (rw [decide_eq_true c_51, Bool.true_or]) | (rw [decide_eq_true c_61, Bool.or_true]))
                · skip
                  rw [lz_ge] at c_61
                  refine pw_iconst (x := 0) h d_X5_holds_64 (by decide) ?_
                  refine pw_iret h hr d_X5_holds_65 rfl (by decide) (by decide) ?_
                  exact ⟨congrArg (fun z => some (Value.int z)) (bI_f (by rw [allB_f (g := fun k => decide (0 ≤ I (r + 15) k) || decide (0 ≤ (mrgL I L r m k (q k) p0 p1).toInt)) (by show (_ || _) = false; rw [decide_eq_false c_51, decide_eq_false c_61]; rfl) _ hlt, Bool.and_false])), rfl, rfl, rfl, rfl⟩
        refine PW.perm [1, 0] rfl ?_
        exact cut_37 (n + 1) 0 v1_36 (by omega) (by omega) e1_36 rfl
      · skip
        have hlt := k_lt ev hm (by omega) (by omega) c_10
        have hx := k_ix ev (show i < 7 by omega) (by decide)
        refine pw_aload_n h 0 d_X5_holds_13 rfl ?_
        refine pw_getR (j := (r + 1)) 5 h d_X5_holds_14 fd_RX5_12 (by assumption) rfl (by assumption) ?_
        refine pw_getR (j := (r + 4)) 0 h d_X5_holds_17 fd_RX5_61 (by assumption) rfl (by assumption) ?_
        refine pw_iload_n h 1 d_X5_holds_20 rfl ?_
        refine pw_lald h d_X5_holds_21 (by assumption) (by assumption) ?_
        refine pw_lconst (x := 0) h d_X5_holds_22 (by decide) ?_
        refine pw_lcmp h d_X5_holds_23 ?_
        refine pw_if_ge 29 h d_X5_holds_24 (by decide) (fun c_24 => ?_) (fun c_24 => ?_)
        · skip
          rw [lz_ge] at c_24
          obtain ⟨v1_29, e1_29⟩ : ∃ z : Int32, z = v + (1) := ⟨_, rfl⟩
          refine pw_iinc (lv' := [(1, .int v1_29), (0, .ref r)]) v1_29 h d_X5_holds_29 1 rfl e1_29.symm _ hml (by decide) rfl ?_
          refine pw_goto 2 h d_X5_holds_32 (by decide) ?_
          refine PW.perm [1, 0] rfl ?_
          exact ih (i + 1) v1_29 (by omega) (by omega) (k_up e1_29 ev) (by simp only [allB, ha, Bool.true_and]; exact decide_eq_true c_24)
        · skip
          rw [lz_ge] at c_24
          refine pw_iconst (x := 0) h d_X5_holds_27 (by decide) ?_
          refine pw_iret h hr d_X5_holds_28 rfl (by decide) (by decide) ?_
          exact ⟨congrArg (fun z => some (Value.int z)) (bI_f (by rw [allB_f (g := fun k => decide (0 ≤ (L (r + 1 + 3) k).toInt)) (decide_eq_false c_24) _ hlt, Bool.false_and])), rfl, rfl, rfl, rfl⟩
  refine PW.perm [1, 0] rfl ?_
  exact cut_2 (m + 1) 0 v1_1 (by omega) (by omega) e1_1 rfl
