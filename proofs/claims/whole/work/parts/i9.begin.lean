/-! the tables' words give the classes; the law from its entry to its loop -/
theorem px_ins {ci : Nat} (h : ci < 9) : Cond.instantiable (px_C ci) (px_n ci) ∈ TW := by
  match ci, h with
  | 0, _ => exact ins_RX0
  | 1, _ => exact ins_RX1
  | 2, _ => exact ins_RX2
  | 3, _ => exact ins_RX3
  | 4, _ => exact ins_RX4
  | 5, _ => exact ins_RX5
  | 6, _ => exact ins_RX6
  | 7, _ => exact ins_RX7
  | 8, _ => exact ins_RX8
  | ci + 9, h => exact absurd h (by omega)
theorem nw_tbl : ∀ q ∈ px_nw, Cond.methodLinkNest q.1 q.2.1 q.2.2.1 q.2.2.2 ∈ lw_tbl := by decide +kernel
theorem ao_tbl : Cond.arrayOver (.object RX6) ∈ lw_tbl := by decide +kernel
theorem aoa_tbl : Cond.arrayOver (.array .int) ∈ lw_tbl := by decide +kernel
def lwA (a b c d e : ClassId) : FieldType → ClassId := fun ty => match ty with
  | .int => a
  | .long => b
  | .byte => c
  | .object _ => d
  | _ => e
theorem lw_K {A : Array Value} {s : State} (hts : ∀ w ∈ lw_tbl, w.before A s = true) : ∃ (D : va_G) (cA : FieldType → ClassId), pxK D cA s := by
  have htw : ∀ w ∈ TW, w.before A s = true := fun w hw => hts w (TW_in w hw)
  have hc : ∀ ci : Nat, ∃ (cC : ClassId) (iS : Nat → Nat), ci < 9 → u_Kn s (px_C ci) (px_T ci) (px_n ci) cC iS := by
    intro ci
    by_cases h : ci < 9
    · obtain ⟨a, b, k⟩ := u_known htw (px_in h) (htw _ (px_ins h))
      exact ⟨a, b, fun _ => k⟩
    · exact ⟨(0 : Nat), fun _ => 0, fun q => absurd q h⟩
  obtain ⟨c1, k1, m1, f1, g1, t1⟩ := Cond.arrayClass_spec (htw _ ac_int)
  obtain ⟨c2, k2, m2, f2, g2, t2⟩ := Cond.arrayClass_spec (htw _ ac_long)
  obtain ⟨c3, k3, m3, f3, g3, t3⟩ := Cond.arrayClass_spec (htw _ ac_byte)
  obtain ⟨m4, c4, k4, p1, p2, p3, p4, p5⟩ := Cond.arrayOver_spec (hts _ ao_tbl)
  obtain ⟨m5, c5, k5, q1, q2, q3, q4, q5⟩ := arrayOverA_spec (hts _ aoa_tbl)
  refine ⟨(fun c => Classical.choose (hc c), fun c => Classical.choose (Classical.choose_spec (hc c))), lwA c1 c2 c3 c4 c5, ⟨fun c q hq => ?_, fun k q hk => ?_⟩, fun q hq => va_Nw.of rfl (hts _ (nw_tbl q hq)), va_AO.of (hts _ ao_tbl), hts _ aoa_tbl⟩
  · by_cases h : c < 9
    · rw [px_cl h] at hq
      cases hq
      exact Classical.choose_spec (Classical.choose_spec (hc c)) h
    · have h0 : vwCl[c]? = none := List.getElem?_eq_none (by have : vwCl.length = 9 := rfl; omega)
      rw [h0] at hq
      cases hq
  · match k, hk with
    | 0, hk => cases hk; exact ⟨fun n z => ⟨fun k h => (by cases h), k1, g1, m1, t1⟩, f1⟩
    | 1, hk => cases hk; exact ⟨fun n z => ⟨fun k h => (by cases h), k2, g2, m2, t2⟩, f2⟩
    | 2, hk => cases hk; exact ⟨fun n z => ⟨fun k h => (by cases h), k3, g3, m3, t3⟩, f3⟩
    | 3, hk => cases hk; exact ⟨fun n z => ⟨fun k h => (by cases h), k4, p3, m4, p4⟩, k4, m4, p3, p4, p1, p5⟩
    | 4, hk => cases hk; exact ⟨fun n z => ⟨fun k h => (by cases h), k5, q3, m5, q4⟩, q5⟩
    | k + 5, hk => cases hk
theorem law_start {X : PX} {b LL : Nat} {scr : Nat → Int32} (h : PXok X RL cL_law 13 600000 7302250) (hs : PXs X b LL scr) (hL : LL ≤ 3072) (hml : (xc X).maxLocals = 4) (kE : ∀ (k n j : Nat) (I : IM) (L : LM) (R : RM), k ≤ 600000 → n ≤ 7302250 → PW X 1267 (lwL j) [] sSh I L R k n) : PW X 0 [(0, .ref 999)] [] [] (fun _ _ => 0) (fun _ _ => 0) (fun _ _ => none) 0 0 := by
  refine pw_new (ci := 7) (c := 0) h d_L_law_0 (by decide) cl_RL_7 ins_RX7 ini_RX7 rfl (by decide) rok_nil (rokl_9 (Nat.le_refl _) rokl_nil) (Nat.le_of_ble_eq_true rfl) (Nat.le_of_ble_eq_true rfl) ?_
  refine pw_dupR h d_L_law_3 ?_
  refine pw_callI (As := []) h d_L_law_4 mf_X7_init rfl rfl im_yX7_init ml_RL_9 ⟨by decide, Nat.le_of_ble_eq_true rfl, Nat.le_of_ble_eq_true rfl⟩ rfl rfl (Nat.le_of_ble_eq_true rfl) (rok_r (Nat.le_of_ble_eq_true rfl) rok_nil) (rokl_9 (Nat.le_refl _) rokl_nil) (c_X7_init rfl rfl) (PKn.ret ?_)
  refine pw_astore_n (lv' := [(1, .ref 0), (0, .ref 999)]) h d_L_law_7 rfl _ hml (by decide) rfl ?_
  refine pw_new (ci := 8) (c := 81) h d_L_law_8 (by decide) cl_RL_10 ins_RX8 ini_RX8 s_len1 (by decide) rok_nil (rokl_r (by decide) (rokl_9 (Nat.le_refl _) rokl_nil)) (Nat.le_of_ble_eq_true rfl) (Nat.le_of_ble_eq_true rfl) ?_
  refine pw_dupR h d_L_law_11 ?_
  refine pw_callI (As := []) h d_L_law_12 mf_X8_init rfl rfl im_yX8_init ml_RL_12 ⟨by decide, Nat.le_of_ble_eq_true rfl, Nat.le_of_ble_eq_true rfl⟩ rfl rfl (Nat.le_of_ble_eq_true rfl) (rok_r (by rw [s_len2]; decide) rok_nil) (rokl_r (by rw [s_len2]; decide) (rokl_9 (Nat.le_refl _) rokl_nil)) (c_X8_init (n := 82) (get_new s_len1) s_len2 (by decide)) (PKn.ret ?_)
  refine pw_astore_n (lv' := [(2, .ref 81), (1, .ref 0), (0, .ref 999)]) h d_L_law_15 rfl _ hml (by decide) rfl ?_
  refine pw_iconst (x := 0) h d_L_law_16 (by decide) ?_
  refine pw_istore_n (lv' := lwL 0) h d_L_law_17 rfl _ hml (by decide) rfl ?_
  exact law_loop (sh := sSh) h hs hL hml (Nat.le_of_ble_eq_true rfl) (Nat.le_of_ble_eq_true rfl) (fun j I L R => kE _ _ j I L R (Nat.le_of_ble_eq_true rfl) (Nat.le_of_ble_eq_true rfl)) LL 0 sI sL sR (by omega) (Nat.zero_le _) s_JJ
