set_option maxHeartbeats 4000000 in
set_option maxRecDepth 100000 in
theorem c_X5_settle {sh : Sh} {I : IM} {L : LM} {R : RM} {r : Nat} (hQ : RestF sh R r) {n : Nat} {q : Nat → Nat} {hh w : Nat → Rat} {F H : Rat} (ok : okS q hh w F H n) (hri : RestI I L r n q hh w F) : PMet M_X5_settle [.ref r] sh I L R (setP sh I L R r n q hh w F) := by
  refine PMet.of mf_X5_settle (Nat.le_of_ble_eq_true rfl) ?_
  intro X h hr hml
  have hml : (xc X).maxLocals = 3 := hml
  have h : PXok X RX5 cX5_settle 5 0 0 := h
  have hr : PXr X (some .boolean) "settle" _ 0 0 := hr
  have hQ0 := hQ
  obtain ⟨q0, q1, hB, q13, q14, q15, p2, p3, p4⟩ := hQ
  have hB0 := hB
  obtain ⟨f0, f1, f2, f3, f4, f5, f6, f7, f8, f9, f10, f11, g1, g2, g3, g9, g10, g11, g12, g13, g14, g15, g16⟩ := hB
  have h7 := ok.1
  have h128 := p7 h7
  have hp2 : 0 < 2 ^ n := Nat.two_pow_pos n
  show PW X 0 [(0, .ref r)] [] sh I L R 0 0
  refine pw_iconst (x := 2) h d_X5_settle_0 (by decide) ?_
  refine pw_nmI (fun v1_1 e1_1 => ?_)
  refine pw_istore_n (lv' := [(1, .int v1_1), (0, .ref r)]) h d_X5_settle_1 rfl _ hml (by decide) rfl ?_
  have cut_2 : ∀ (N sz : Nat) (v : Int32) (I2 : IM) (L2 : LM), n + 2 < sz + N → 2 ≤ sz → sz ≤ n + 2 → v = nI sz → frI r I I2 → frL (r + 1) L L2 → (∀ d, d < 2 ^ n → 2 ≤ popN d → popN d < sz → ¬ lieC n q hh w F d) → PW X 2 [(0, .ref r), (1, .int v)] [] sh I2 L2 R 0 0 := by
    intro N
    induction N with
    | zero => intros; omega
    | succ N iho =>
      intro sz v I2 L2 hN hz hz2 ev f1 f2 hno
      have hr2 := RestI_fr hri f1 f2
      refine pw_iload_n h 1 d_X5_settle_2 rfl ?_
      refine pw_aload_n h 0 d_X5_settle_3 rfl ?_
      refine pw_getI 5 h d_X5_settle_4 fd_RX5_18 (by assumption) rfl ?_
      refine pw_icmp_gt 57 h d_X5_settle_7 (by decide) (fun c_7 => ?_) (fun c_7 => ?_)
      · skip
        have hlt : n < sz := k_lt2 hr2.1 ev (by omega) (by omega) c_7
        refine pw_iconst (x := 0) h d_X5_settle_57 (by decide) ?_
        refine pw_iret h hr d_X5_settle_58 (by decide) (by decide) (by decide) ?_
        exact ⟨rfl, rfl, f1, f2, Or.inr ⟨rfl, fun d h1 h2 h3 => hno d h1 h2 (by have := pop_le n h7 d h1; omega) h3⟩⟩
      · skip
        have hge : sz ≤ n := k_ge2 hr2.1 ev (by omega) (by omega) c_7
        refine pw_iconst (x := 1) h d_X5_settle_10 (by decide) ?_
        refine pw_aload_n h 0 d_X5_settle_11 rfl ?_
        refine pw_getI 5 h d_X5_settle_12 fd_RX5_18 (by assumption) rfl ?_
        refine pw_ishl h d_X5_settle_15 ?_
        refine pw_iconst (x := 1) h d_X5_settle_16 (by decide) ?_
        refine pw_isub h d_X5_settle_17 ?_
        refine pw_nmI (fun v2_18 e2_18 => ?_)
        refine pw_istore_n (lv' := [(2, .int v2_18), (0, .ref r), (1, .int v)]) h d_X5_settle_18 rfl _ hml (by decide) rfl ?_
        have cut_19 : ∀ (N c : Nat) (v2 : Int32) (I3 : IM) (L3 : LM), c < N → c < 2 ^ n → v2 = nI c → frI r I I3 → frL (r + 1) L L3 → (∀ d, d < 2 ^ n → popN d = sz → c < d → ¬ lieC n q hh w F d) → PW X 19 [(0, .ref r), (1, .int v), (2, .int v2)] [] sh I3 L3 R 0 0 := by
          intro N
          induction N with
          | zero => intros; omega
          | succ N ih =>
            intro c v2 I3 L3 hM hc ec f3 f4 hno3
            have hr3 := RestI_fr hri f3 f4
            have hbc : bcI v2 = nI (popN c) := by rw [ec]; exact bcI_pop c (by omega)
            have hpl := pop_le n h7 c hc
            refine pw_iload_n h 2 d_X5_settle_19 rfl ?_
            refine pw_if_le 51 h d_X5_settle_20 (by decide) (fun c_20 => ?_) (fun c_20 => ?_)
            · skip
              have hc0 : c = 0 := k_0 ec (by omega) c_20
              subst hc0
              obtain ⟨v1_51, e1_51⟩ : ∃ z : Int32, z = v + (1) := ⟨_, rfl⟩
              refine pw_iinc (lv' := [(1, .int v1_51), (0, .ref r), (2, .int v2)]) v1_51 h d_X5_settle_51 1 rfl e1_51.symm _ hml (by decide) rfl ?_
              refine pw_goto 2 h d_X5_settle_54 (by decide) ?_
              refine PW.perm [1, 0] rfl ?_
              refine iho (sz + 1) v1_51 _ _ (by omega) (by omega) (by omega) (k_up e1_51 ev) f3 f4 (fun d h1 h2 h3 => ?_)
              rcases Nat.lt_or_ge (popN d) sz with q1 | q1
              · exact hno d h1 h2 q1
              · have e : popN d = sz := by omega
                rcases Nat.eq_zero_or_pos d with q2 | q2
                · subst q2; exact absurd h2 (by decide)
                · exact hno3 d h1 e (by omega)
            · skip
              have hc0 : 0 < c := k_p ec (by omega) c_20
              refine pw_iload_n h 2 d_X5_settle_23 rfl ?_
              refine pw_callS (As := [.int _]) h d_X5_settle_24 mf_J6_bitCount_0f7a4 st_yJ6_bitCount_0f7a4 ml_RX5_40 ⟨by decide, by decide, by decide⟩ rfl rfl (Nat.le_of_ble_eq_true rfl) c_J6_bitCount_0f7a4 ?_
              refine PKk.ret ?_
              refine pw_iload_n h 1 d_X5_settle_27 rfl ?_
              refine pw_icmp_ne 45 h d_X5_settle_28 (by decide) (fun c_28 => ?_) (fun c_28 => ?_)
              · skip
                have g1 := f3
                have g2 := f4
                have hnc : popN c = sz → ¬ lieC n q hh w F c := fun e => absurd (by rw [hbc, ev, e]) c_28
                obtain ⟨v2_45, e2_45⟩ : ∃ z : Int32, z = v2 + (-1) := ⟨_, rfl⟩
                refine pw_iinc (lv' := [(2, .int v2_45), (0, .ref r), (1, .int v)]) v2_45 h d_X5_settle_45 2 rfl e2_45.symm _ hml (by decide) rfl ?_
                refine pw_goto 19 h d_X5_settle_48 (by decide) ?_
                refine PW.perm [1, 2, 0] rfl ?_
                refine ih (c - 1) v2_45 _ _ (by omega) (by omega) (k_dn e2_45 ec hc0) g1 g2 (fun d k1 k2 k3 => ?_)
                rcases Nat.lt_or_ge c d with q1 | q1
                · exact hno3 d k1 k2 q1
                · have e : d = c := by omega
                  subst e
                  exact hnc k2
              · skip
                have hsz : popN c = sz := by rw [hbc, ev] at c_28; exact (nI_eq (by omega) (by omega)).mp c_28
                have h2 : 2 ≤ cntS (selC (nI c) n) n := by rw [pop_cnt n h7 c hc]; omega
                refine pw_aload_n h 0 d_X5_settle_31 rfl ?_
                refine pw_iload_n h 2 d_X5_settle_32 rfl ?_
                refine pw_callV (As := [.int _]) h d_X5_settle_33 mf_X5_lay mi_X5_lay ml_RX5_46 ⟨by decide, by decide, by decide⟩ (by assumption) rfl rfl (Nat.le_of_ble_eq_true rfl) trivial (c_X5_lay hQ0 (n := n) hr3.1 h7 (ri_q ok hr3) _) ?_
                refine PKk.ret ?_
                have hS := lay_S (c := v2) ok hr3
                have g1 := frI_t f3 (lay_fr (I := I3) (r := r) (n := n) (c := v2))
                have g2 := frL_t f4 (lay_frL (L := L3) (I' := layI I3 r v2 n n) (b := r + 1) (m := cntS (selC v2 n) n) (pl := lyN (selC v2 n) q n))
                generalize solL (layI I3 r v2 n n) L3 (r + 1) (cntS (selC v2 n) n) (lyN (selC v2 n) q n) = L4 at *
                generalize layI I3 r v2 n n = I4 at *
                rw [ec] at hS
                refine pw_aload_n h 0 d_X5_settle_36 rfl ?_
                refine pw_callV (As := []) h d_X5_settle_37 mf_X5_holds mi_X5_holds ml_RX5_49 ⟨by decide, by decide, by decide⟩ (by assumption) rfl rfl (Nat.le_of_ble_eq_true rfl) trivial (c_X5_holds hQ0 hS.1.1 h7 hS.2.1 (rs_7 ok) (rs_seat ok hS) (rs_q ok hS) (rs_p ok hS h2 (by omega)) (rs_p ok hS h2 (by omega))) ?_
                refine PKk.ret ?_
                refine pw_if_eq 45 h d_X5_settle_40 (by decide) (fun c_40 => ?_) (fun c_40 => ?_)
                · skip
                  rw [bI_1] at c_40
                  have hnc : popN c = sz → ¬ lieC n q hh w F c := fun _ hl => by have := (hold_ok ok hS h2).mpr hl; rw [this] at c_40; cases c_40
                  obtain ⟨v2_45, e2_45⟩ : ∃ z : Int32, z = v2 + (-1) := ⟨_, rfl⟩
                  refine pw_iinc (lv' := [(2, .int v2_45), (0, .ref r), (1, .int v)]) v2_45 h d_X5_settle_45 2 rfl e2_45.symm _ hml (by decide) rfl ?_
                  refine pw_goto 19 h d_X5_settle_48 (by decide) ?_
                  refine PW.perm [1, 2, 0] rfl ?_
                  refine ih (c - 1) v2_45 _ _ (by omega) (by omega) (k_dn e2_45 ec hc0) g1 g2 (fun d k1 k2 k3 => ?_)
                  rcases Nat.lt_or_ge c d with q1 | q1
                  · exact hno3 d k1 k2 q1
                  · have e : d = c := by omega
                    subst e
                    exact hnc k2
                · skip
                  rw [bI_1, Bool.not_eq_false] at c_40
                  have hl : lieC n q hh w F c := (hold_ok ok hS h2).mp c_40
                  refine pw_iconst (x := 1) h d_X5_settle_43 (by decide) ?_
                  refine pw_iret h hr d_X5_settle_44 (by decide) (by decide) (by decide) ?_
                  exact ⟨rfl, rfl, g1, g2, Or.inl ⟨rfl, c, ⟨hc, by omega, hl, fun d h1 h2 h3 => by
                    rcases Nat.lt_trichotomy (popN d) sz with q1 | q1 | q1
                    · exact absurd h3 (hno d h1 h2 q1)
                    · rcases Nat.lt_or_ge c d with q2 | q2
                      · exact absurd h3 (hno3 d h1 q1 q2)
                      · exact Or.inr ⟨by omega, q2⟩
                    · exact Or.inl (by omega)⟩, hS⟩⟩
        refine PW.perm [1, 2, 0] rfl ?_
        exact cut_19 (2 ^ n) (2 ^ n - 1) v2_18 I2 L2 (by omega) (by omega) (by rw [e2_18, hr2.1]; exact shl_1 n h7) f1 f2 (fun d h1 _ h3 => by omega)
  refine PW.perm [1, 0] rfl ?_
  exact cut_2 (n + 3) 2 v1_1 I L (by omega) (by omega) (by omega) e1_1 frI_0 frL_0 (fun d h1 h2 h3 => by omega)
