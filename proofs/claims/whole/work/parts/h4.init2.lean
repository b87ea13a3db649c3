def shX7 (sh : Sh) : Sh := (shX6 ((shX6 ((shX6 ((shX6 ((shX1 ((shX1 ((shX3 ((shX5 ((shX0 ((shX0 (((shX4 ((((shX2 (sh ++ [kO 2])) ++ nK5) ++ [kB 120]) ++ [kO 4])) ++ [kQ 4]) ++ [kO 0])) ++ [kO 0])) ++ [kO 5])) ++ [kO 3])) ++ [kO 1])) ++ [kO 1])) ++ [kO 6])) ++ [kO 6])) ++ [kO 6])) ++ [kO 6]))
def iX7 (I : IM) (b n : Nat) : IM := (iX6 (nI0 (iX6 (nI0 (iX6 (nI0 (iX6 (nI0 (iX1 (nI0 (iX1 (nI0 (u2 (iX3 (nI0 (u2 (u2 (u2 (u2 (iX5 (nI0 (iX0 (nI0 (iX0 (nI0 (nI0 (iX4 (nI0 (u2 (nI0 (nI5 (iX2 (nI0 I 1) 1 2) 7) 12) 0 3 0) 13) 13 14) 20) 21) 21 22) 33) 33 34) 45) 45 46) 0 9 (-1)) 0 10 0) 0 11 0) 0 12 600) 61) 61 62) 0 14 0) 71) 71 72) 72) 72 73) 73) 73 74) 75) 75 76) 77) 77 78) 79) 79 80)
def lX7 (L : LM) (b n : Nat) : LM := (lX6 (nL0 (lX6 (nL0 (lX6 (nL0 (lX6 (nL0 (lX1 (nL0 (lX1 (nL0 (lX3 (nL0 (lX5 (nL0 (lX0 (nL0 (lX0 (nL0 (nL0 (lX4 (nL0 (nL0 (nL5 (lX2 (nL0 L 1) 1 2) 7) 12) 13) 13 14) 20) 21) 21 22) 33) 33 34) 45) 45 46) 61) 61 62) 71) 71 72) 72) 72 73) 73) 73 74) 75) 75 76) 77) 77 78) 79) 79 80)
def rX7 (R : RM) (b n : Nat) : RM := (u2 (rX6 (nR0 (u2 (rX6 (nR0 (u2 (rX6 (nR0 (u2 (rX6 (nR0 (u2 (rX1 (nR0 (u2 (rX1 (nR0 (u2 (rX3 (nR0 (u2 (rX5 (nR0 (u2 (rX0 (nR0 (u2 (rX0 (nR0 (u2 (nR0 (u2 (rX4 (nR0 (u2 (nR0 (u2 (nR5 (u2 (rX2 (nR0 R 1) 1 2) 0 0 (some 1)) 7) 0 1 (some 7)) 12) 0 2 (some 12)) 13) 13 14) 0 4 (some 13)) 20) 0 5 (some 20)) 21) 21 22) 0 6 (some 21)) 33) 33 34) 0 7 (some 33)) 45) 45 46) 0 8 (some 45)) 61) 61 62) 0 13 (some 61)) 71) 71 72) 0 15 (some 71)) 72) 72 73) 0 16 (some 72)) 73) 73 74) 20 0 (some 73)) 75) 75 76) 20 1 (some 75)) 77) 77 78) 20 2 (some 77)) 79) 79 80) 20 3 (some 79))
set_option maxHeartbeats 4000000 in
set_option maxRecDepth 100000 in
theorem c_X7_init {sh : Sh} {I : IM} {L : LM} {R : RM} (hb : sh[0]? = some (kO 7)) (hn : sh.length = 1) : PMet M_X7_init [.ref 0] sh I L R (pRet none (shX7 sh) (iX7 I 0 1) (lX7 L 0 1) (rX7 R 0 1)) := by
  refine PMet.of mf_X7_init (Nat.le_of_ble_eq_true rfl) ?_
  intro X h hr hml
  have hml : (xc X).maxLocals = 2 := hml
  have h : PXok X RX7 cX7_init 3 80 1115 := h
  have hr : PXr X none "<init>" _ 80 1115 := hr
  have hin := hr.2.2.2
  show PW X 0 [(0, .ref 0)] [] sh I L R 0 0
  refine pw_aload_n h 0 d_X7_init_0 rfl ?_
  refine pw_obj h d_X7_init_1 ml_RX7_3 (by decide) (Nat.le_of_ble_eq_true rfl) ?_
  refine pw_aload_n h 0 d_X7_init_4 rfl ?_
  refine pw_new (ci := 2) h d_X7_init_5 (by decide) cl_RX7_9 ins_RX2 ini_RX2 hn (by decide) (rok_r (by decide) rok_nil) (rokl_r (by decide) rokl_nil) (by decide) (by decide) ?_
  have hn1 : ((sh ++ [kO 2])).length = 2 := len_app hn
  have hs2 : ((sh ++ [kO 2]))[0]? = some (kO 7) := get_app hb
  have hs3 : ((sh ++ [kO 2]))[1]? = some (kO 2) := get_new hn
  refine pw_dupR h d_X7_init_8 ?_
  refine pw_callIN (As := []) h d_X7_init_9 mf_X2_init rfl rfl im_yX2_init nw_RX7_11 ⟨by decide, by decide, by decide⟩ rfl rfl (Nat.le_of_ble_eq_true rfl) (by rw [hn1]; exact (rok_r (by decide) (rok_r (by decide) rok_nil))) (by rw [hn1]; exact (rokl_r (by decide) rokl_nil)) (c_X2_init hs3 hn1 (by decide)) (PKn.ret ?_)
  have hn4 : ((shX2 (sh ++ [kO 2]))).length = 7 := shX2_len hn1
  have hs5 : ((shX2 (sh ++ [kO 2])))[0]? = some (kO 7) := shX2_get hs2
  clear hs2
  refine pw_putF 7 h hin d_X7_init_12 fd_RX7_12 hs5 rfl rfl rfl (fun _ => rfl) (fun _ => rfl) (by rw [hn4]; exact (by decide)) ?_
  refine pw_aload_n h 0 d_X7_init_15 rfl ?_
  refine pw_iconst (x := 4) h d_X7_init_16 (by decide) ?_
  refine pw_bipush (x := 13) h d_X7_init_17 (by decide) ?_
  refine pw_mna h d_X7_init_19 cl_RX7_16 hn4 (by decide) (rok_r (by decide) rok_nil) (rokl_r (by decide) rokl_nil) (by decide) (by decide) ?_
  have hn6 : (((shX2 (sh ++ [kO 2])) ++ nK5)).length = 12 := len_app5 hn4
  have hs7 : (((shX2 (sh ++ [kO 2])) ++ nK5))[0]? = some (kO 7) := get_app hs5
  clear hs5
  refine pw_putF 7 h hin d_X7_init_23 fd_RX7_18 hs7 rfl rfl rfl (fun _ => rfl) (fun _ => rfl) (by rw [hn6]; exact (by decide)) ?_
  refine pw_aload_n h 0 d_X7_init_26 rfl ?_
  refine pw_bipush (x := 120) h d_X7_init_27 (by decide) ?_
  refine pw_newB (N := 120) h d_X7_init_29 (by decide) rfl (by decide) hn6 (by decide) (rok_r (by decide) rok_nil) (rokl_r (by decide) rokl_nil) (by decide) (by decide) ?_
  have hn8 : ((((shX2 (sh ++ [kO 2])) ++ nK5) ++ [kB 120])).length = 13 := len_app hn6
  have hs9 : ((((shX2 (sh ++ [kO 2])) ++ nK5) ++ [kB 120]))[0]? = some (kO 7) := get_app hs7
  clear hn6 hs7
  refine pw_putF 7 h hin d_X7_init_31 fd_RX7_21 hs9 rfl rfl rfl (fun _ => rfl) (fun _ => rfl) (by rw [hn8]; exact (by decide)) ?_
  refine pw_aload_n h 0 d_X7_init_34 rfl ?_
  refine pw_iconst (x := 0) h d_X7_init_35 (by decide) ?_
  refine pw_putI 7 h d_X7_init_36 fd_RX7_25 hs9 rfl rfl (by decide) (by decide) ?_
  refine pw_aload_n h 0 d_X7_init_39 rfl ?_
  refine pw_new (ci := 4) h d_X7_init_40 (by decide) cl_RX7_29 ins_RX4 ini_RX4 hn8 (by decide) (rok_r (by decide) rok_nil) (rokl_r (by decide) rokl_nil) (by decide) (by decide) ?_
  have hn10 : (((((shX2 (sh ++ [kO 2])) ++ nK5) ++ [kB 120]) ++ [kO 4])).length = 14 := len_app hn8
  have hs11 : (((((shX2 (sh ++ [kO 2])) ++ nK5) ++ [kB 120]) ++ [kO 4]))[0]? = some (kO 7) := get_app hs9
  have hs12 : (((((shX2 (sh ++ [kO 2])) ++ nK5) ++ [kB 120]) ++ [kO 4]))[13]? = some (kO 4) := get_new hn8
  clear hn8 hs9
  refine pw_dupR h d_X7_init_43 ?_
  refine pw_callIN (As := []) h d_X7_init_44 mf_X4_init rfl rfl im_yX4_init nw_RX7_31 ⟨by decide, by decide, by decide⟩ rfl rfl (Nat.le_of_ble_eq_true rfl) (by rw [hn10]; exact (rok_r (by decide) (rok_r (by decide) rok_nil))) (by rw [hn10]; exact (rokl_r (by decide) rokl_nil)) (c_X4_init hs12 hn10 (by decide)) (PKn.ret ?_)
  have hn13 : ((shX4 ((((shX2 (sh ++ [kO 2])) ++ nK5) ++ [kB 120]) ++ [kO 4]))).length = 20 := shX4_len hn10
  have hs14 : ((shX4 ((((shX2 (sh ++ [kO 2])) ++ nK5) ++ [kB 120]) ++ [kO 4])))[0]? = some (kO 7) := shX4_get hs11
  clear hs11
  refine pw_putF 7 h hin d_X7_init_47 fd_RX7_32 hs14 rfl rfl rfl (fun _ => rfl) (fun _ => rfl) (by rw [hn13]; exact (by decide)) ?_
  refine pw_aload_n h 0 d_X7_init_50 rfl ?_
  refine pw_iconst (x := 4) h d_X7_init_51 (by decide) ?_
  refine pw_newq (N := 4) h d_X7_init_52 cl_RX7_36 (by decide) rfl (by decide) hn13 (by decide) (rok_r (by decide) rok_nil) (rokl_r (by decide) rokl_nil) (by decide) (by decide) ?_
  have hn15 : (((shX4 ((((shX2 (sh ++ [kO 2])) ++ nK5) ++ [kB 120]) ++ [kO 4])) ++ [kQ 4])).length = 21 := len_app hn13
  have hs16 : (((shX4 ((((shX2 (sh ++ [kO 2])) ++ nK5) ++ [kB 120]) ++ [kO 4])) ++ [kQ 4]))[0]? = some (kO 7) := get_app hs14
  have hs17 : (((shX4 ((((shX2 (sh ++ [kO 2])) ++ nK5) ++ [kB 120]) ++ [kO 4])) ++ [kQ 4]))[20]? = some (kQ 4) := get_new hn13
  clear hn13 hs14
  refine pw_putF 7 h hin d_X7_init_55 fd_RX7_38 hs16 rfl rfl rfl (fun _ => rfl) (fun _ => rfl) (by rw [hn15]; exact (by decide)) ?_
  have hr18 : ((u2 (nR0 (u2 (rX4 (nR0 (u2 (nR0 (u2 (nR5 (u2 (rX2 (nR0 R 1) 1 2) 0 0 (some 1)) 7) 0 1 (some 7)) 12) 0 2 (some 12)) 13) 13 14) 0 4 (some 13)) 20) 0 5 (some 20))) 0 5 = some 20 := u2_s
  refine pw_aload_n h 0 d_X7_init_58 rfl ?_
  refine pw_new (ci := 0) h d_X7_init_59 (by decide) cl_RX7_42 ins_RX0 ini_RX0 hn15 (by decide) (rok_r (by decide) rok_nil) (rokl_r (by decide) rokl_nil) (by decide) (by decide) ?_
  have hn19 : ((((shX4 ((((shX2 (sh ++ [kO 2])) ++ nK5) ++ [kB 120]) ++ [kO 4])) ++ [kQ 4]) ++ [kO 0])).length = 22 := len_app hn15
  have hs20 : ((((shX4 ((((shX2 (sh ++ [kO 2])) ++ nK5) ++ [kB 120]) ++ [kO 4])) ++ [kQ 4]) ++ [kO 0]))[0]? = some (kO 7) := get_app hs16
  have hs21 : ((((shX4 ((((shX2 (sh ++ [kO 2])) ++ nK5) ++ [kB 120]) ++ [kO 4])) ++ [kQ 4]) ++ [kO 0]))[20]? = some (kQ 4) := get_app hs17
  have hr22 : ((nR0 (u2 (nR0 (u2 (rX4 (nR0 (u2 (nR0 (u2 (nR5 (u2 (rX2 (nR0 R 1) 1 2) 0 0 (some 1)) 7) 0 1 (some 7)) 12) 0 2 (some 12)) 13) 13 14) 0 4 (some 13)) 20) 0 5 (some 20)) 21)) 0 5 = some 20 := by rw [nR0_o (by decide)]; exact hr18
  have hs23 : ((((shX4 ((((shX2 (sh ++ [kO 2])) ++ nK5) ++ [kB 120]) ++ [kO 4])) ++ [kQ 4]) ++ [kO 0]))[21]? = some (kO 0) := get_new hn15
  clear hn15 hs16 hs17 hr18
  refine pw_dupR h d_X7_init_62 ?_
  refine pw_callIN (As := []) h d_X7_init_63 mf_X0_init rfl rfl im_yX0_init nw_RX7_44 ⟨by decide, by decide, by decide⟩ rfl rfl (Nat.le_of_ble_eq_true rfl) (by rw [hn19]; exact (rok_r (by decide) (rok_r (by decide) rok_nil))) (by rw [hn19]; exact (rokl_r (by decide) rokl_nil)) (c_X0_init hs23 hn19 (by decide)) (PKn.ret ?_)
  have hn24 : ((shX0 (((shX4 ((((shX2 (sh ++ [kO 2])) ++ nK5) ++ [kB 120]) ++ [kO 4])) ++ [kQ 4]) ++ [kO 0]))).length = 33 := shX0_len hn19
  have hs25 : ((shX0 (((shX4 ((((shX2 (sh ++ [kO 2])) ++ nK5) ++ [kB 120]) ++ [kO 4])) ++ [kQ 4]) ++ [kO 0])))[0]? = some (kO 7) := shX0_get hs20
  have hs26 : ((shX0 (((shX4 ((((shX2 (sh ++ [kO 2])) ++ nK5) ++ [kB 120]) ++ [kO 4])) ++ [kQ 4]) ++ [kO 0])))[20]? = some (kQ 4) := shX0_get hs21
  have hr27 : ((rX0 (nR0 (u2 (nR0 (u2 (rX4 (nR0 (u2 (nR0 (u2 (nR5 (u2 (rX2 (nR0 R 1) 1 2) 0 0 (some 1)) 7) 0 1 (some 7)) 12) 0 2 (some 12)) 13) 13 14) 0 4 (some 13)) 20) 0 5 (some 20)) 21) 21 22)) 0 5 = some 20 := by rw [rX0_o (by decide) (by decide)]; exact hr22
  clear hs20 hs21 hr22
  refine pw_putF 7 h hin d_X7_init_66 fd_RX7_45 hs25 rfl rfl rfl (fun _ => rfl) (fun _ => rfl) (by rw [hn24]; exact (by decide)) ?_
  have hr28 : ((u2 (rX0 (nR0 (u2 (nR0 (u2 (rX4 (nR0 (u2 (nR0 (u2 (nR5 (u2 (rX2 (nR0 R 1) 1 2) 0 0 (some 1)) 7) 0 1 (some 7)) 12) 0 2 (some 12)) 13) 13 14) 0 4 (some 13)) 20) 0 5 (some 20)) 21) 21 22) 0 6 (some 21))) 0 5 = some 20 := by rw [u2_n2 (by decide)]; exact hr27
  clear hr27
  refine pw_aload_n h 0 d_X7_init_69 rfl ?_
  refine pw_new (ci := 0) h d_X7_init_70 (by decide) cl_RX7_42 ins_RX0 ini_RX0 hn24 (by decide) (rok_r (by decide) rok_nil) (rokl_r (by decide) rokl_nil) (by decide) (by decide) ?_
  have hn29 : (((shX0 (((shX4 ((((shX2 (sh ++ [kO 2])) ++ nK5) ++ [kB 120]) ++ [kO 4])) ++ [kQ 4]) ++ [kO 0])) ++ [kO 0])).length = 34 := len_app hn24
  have hs30 : (((shX0 (((shX4 ((((shX2 (sh ++ [kO 2])) ++ nK5) ++ [kB 120]) ++ [kO 4])) ++ [kQ 4]) ++ [kO 0])) ++ [kO 0]))[0]? = some (kO 7) := get_app hs25
  have hs31 : (((shX0 (((shX4 ((((shX2 (sh ++ [kO 2])) ++ nK5) ++ [kB 120]) ++ [kO 4])) ++ [kQ 4]) ++ [kO 0])) ++ [kO 0]))[20]? = some (kQ 4) := get_app hs26
  have hr32 : ((nR0 (u2 (rX0 (nR0 (u2 (nR0 (u2 (rX4 (nR0 (u2 (nR0 (u2 (nR5 (u2 (rX2 (nR0 R 1) 1 2) 0 0 (some 1)) 7) 0 1 (some 7)) 12) 0 2 (some 12)) 13) 13 14) 0 4 (some 13)) 20) 0 5 (some 20)) 21) 21 22) 0 6 (some 21)) 33)) 0 5 = some 20 := by rw [nR0_o (by decide)]; exact hr28
  have hs33 : (((shX0 (((shX4 ((((shX2 (sh ++ [kO 2])) ++ nK5) ++ [kB 120]) ++ [kO 4])) ++ [kQ 4]) ++ [kO 0])) ++ [kO 0]))[33]? = some (kO 0) := get_new hn24
  clear hn24 hs25 hs26 hr28
  refine pw_dupR h d_X7_init_73 ?_
  refine pw_callIN (As := []) h d_X7_init_74 mf_X0_init rfl rfl im_yX0_init nw_RX7_44 ⟨by decide, by decide, by decide⟩ rfl rfl (Nat.le_of_ble_eq_true rfl) (by rw [hn29]; exact (rok_r (by decide) (rok_r (by decide) rok_nil))) (by rw [hn29]; exact (rokl_r (by decide) rokl_nil)) (c_X0_init hs33 hn29 (by decide)) (PKn.ret ?_)
  have hn34 : ((shX0 ((shX0 (((shX4 ((((shX2 (sh ++ [kO 2])) ++ nK5) ++ [kB 120]) ++ [kO 4])) ++ [kQ 4]) ++ [kO 0])) ++ [kO 0]))).length = 45 := shX0_len hn29
  have hs35 : ((shX0 ((shX0 (((shX4 ((((shX2 (sh ++ [kO 2])) ++ nK5) ++ [kB 120]) ++ [kO 4])) ++ [kQ 4]) ++ [kO 0])) ++ [kO 0])))[0]? = some (kO 7) := shX0_get hs30
  have hs36 : ((shX0 ((shX0 (((shX4 ((((shX2 (sh ++ [kO 2])) ++ nK5) ++ [kB 120]) ++ [kO 4])) ++ [kQ 4]) ++ [kO 0])) ++ [kO 0])))[20]? = some (kQ 4) := shX0_get hs31
  have hr37 : ((rX0 (nR0 (u2 (rX0 (nR0 (u2 (nR0 (u2 (rX4 (nR0 (u2 (nR0 (u2 (nR5 (u2 (rX2 (nR0 R 1) 1 2) 0 0 (some 1)) 7) 0 1 (some 7)) 12) 0 2 (some 12)) 13) 13 14) 0 4 (some 13)) 20) 0 5 (some 20)) 21) 21 22) 0 6 (some 21)) 33) 33 34)) 0 5 = some 20 := by rw [rX0_o (by decide) (by decide)]; exact hr32
  clear hs30 hs31 hr32
  refine pw_putF 7 h hin d_X7_init_77 fd_RX7_49 hs35 rfl rfl rfl (fun _ => rfl) (fun _ => rfl) (by rw [hn34]; exact (by decide)) ?_
  have hr38 : ((u2 (rX0 (nR0 (u2 (rX0 (nR0 (u2 (nR0 (u2 (rX4 (nR0 (u2 (nR0 (u2 (nR5 (u2 (rX2 (nR0 R 1) 1 2) 0 0 (some 1)) 7) 0 1 (some 7)) 12) 0 2 (some 12)) 13) 13 14) 0 4 (some 13)) 20) 0 5 (some 20)) 21) 21 22) 0 6 (some 21)) 33) 33 34) 0 7 (some 33))) 0 5 = some 20 := by rw [u2_n2 (by decide)]; exact hr37
  clear hr37
  refine pw_aload_n h 0 d_X7_init_80 rfl ?_
  refine pw_new (ci := 5) h d_X7_init_81 (by decide) cl_RX7_52 ins_RX5 ini_RX5 hn34 (by decide) (rok_r (by decide) rok_nil) (rokl_r (by decide) rokl_nil) (by decide) (by decide) ?_
  have hn39 : (((shX0 ((shX0 (((shX4 ((((shX2 (sh ++ [kO 2])) ++ nK5) ++ [kB 120]) ++ [kO 4])) ++ [kQ 4]) ++ [kO 0])) ++ [kO 0])) ++ [kO 5])).length = 46 := len_app hn34
  have hs40 : (((shX0 ((shX0 (((shX4 ((((shX2 (sh ++ [kO 2])) ++ nK5) ++ [kB 120]) ++ [kO 4])) ++ [kQ 4]) ++ [kO 0])) ++ [kO 0])) ++ [kO 5]))[0]? = some (kO 7) := get_app hs35
  have hs41 : (((shX0 ((shX0 (((shX4 ((((shX2 (sh ++ [kO 2])) ++ nK5) ++ [kB 120]) ++ [kO 4])) ++ [kQ 4]) ++ [kO 0])) ++ [kO 0])) ++ [kO 5]))[20]? = some (kQ 4) := get_app hs36
  have hr42 : ((nR0 (u2 (rX0 (nR0 (u2 (rX0 (nR0 (u2 (nR0 (u2 (rX4 (nR0 (u2 (nR0 (u2 (nR5 (u2 (rX2 (nR0 R 1) 1 2) 0 0 (some 1)) 7) 0 1 (some 7)) 12) 0 2 (some 12)) 13) 13 14) 0 4 (some 13)) 20) 0 5 (some 20)) 21) 21 22) 0 6 (some 21)) 33) 33 34) 0 7 (some 33)) 45)) 0 5 = some 20 := by rw [nR0_o (by decide)]; exact hr38
  have hs43 : (((shX0 ((shX0 (((shX4 ((((shX2 (sh ++ [kO 2])) ++ nK5) ++ [kB 120]) ++ [kO 4])) ++ [kQ 4]) ++ [kO 0])) ++ [kO 0])) ++ [kO 5]))[45]? = some (kO 5) := get_new hn34
  clear hn34 hs35 hs36 hr38
  refine pw_dupR h d_X7_init_84 ?_
  refine pw_callIN (As := []) h d_X7_init_85 mf_X5_init rfl rfl im_yX5_init nw_RX7_54 ⟨by decide, by decide, by decide⟩ rfl rfl (Nat.le_of_ble_eq_true rfl) (by rw [hn39]; exact (rok_r (by decide) (rok_r (by decide) rok_nil))) (by rw [hn39]; exact (rokl_r (by decide) rokl_nil)) (c_X5_init hs43 hn39 (by decide)) (PKn.ret ?_)
  have hn44 : ((shX5 ((shX0 ((shX0 (((shX4 ((((shX2 (sh ++ [kO 2])) ++ nK5) ++ [kB 120]) ++ [kO 4])) ++ [kQ 4]) ++ [kO 0])) ++ [kO 0])) ++ [kO 5]))).length = 61 := shX5_len hn39
  have hs45 : ((shX5 ((shX0 ((shX0 (((shX4 ((((shX2 (sh ++ [kO 2])) ++ nK5) ++ [kB 120]) ++ [kO 4])) ++ [kQ 4]) ++ [kO 0])) ++ [kO 0])) ++ [kO 5])))[0]? = some (kO 7) := shX5_get hs40
  have hs46 : ((shX5 ((shX0 ((shX0 (((shX4 ((((shX2 (sh ++ [kO 2])) ++ nK5) ++ [kB 120]) ++ [kO 4])) ++ [kQ 4]) ++ [kO 0])) ++ [kO 0])) ++ [kO 5])))[20]? = some (kQ 4) := shX5_get hs41
  have hr47 : ((rX5 (nR0 (u2 (rX0 (nR0 (u2 (rX0 (nR0 (u2 (nR0 (u2 (rX4 (nR0 (u2 (nR0 (u2 (nR5 (u2 (rX2 (nR0 R 1) 1 2) 0 0 (some 1)) 7) 0 1 (some 7)) 12) 0 2 (some 12)) 13) 13 14) 0 4 (some 13)) 20) 0 5 (some 20)) 21) 21 22) 0 6 (some 21)) 33) 33 34) 0 7 (some 33)) 45) 45 46)) 0 5 = some 20 := by rw [rX5_o (by decide) (by decide)]; exact hr42
  clear hs40 hs41 hr42
  refine pw_putF 7 h hin d_X7_init_88 fd_RX7_55 hs45 rfl rfl rfl (fun _ => rfl) (fun _ => rfl) (by rw [hn44]; exact (by decide)) ?_
  have hr48 : ((u2 (rX5 (nR0 (u2 (rX0 (nR0 (u2 (rX0 (nR0 (u2 (nR0 (u2 (rX4 (nR0 (u2 (nR0 (u2 (nR5 (u2 (rX2 (nR0 R 1) 1 2) 0 0 (some 1)) 7) 0 1 (some 7)) 12) 0 2 (some 12)) 13) 13 14) 0 4 (some 13)) 20) 0 5 (some 20)) 21) 21 22) 0 6 (some 21)) 33) 33 34) 0 7 (some 33)) 45) 45 46) 0 8 (some 45))) 0 5 = some 20 := by rw [u2_n2 (by decide)]; exact hr47
  clear hr47
  refine pw_aload_n h 0 d_X7_init_91 rfl ?_
  refine pw_iconst (x := (-1)) h d_X7_init_92 (by decide) ?_
  refine pw_putI 7 h d_X7_init_93 fd_RX7_59 hs45 rfl rfl (by decide) (by decide) ?_
  refine pw_aload_n h 0 d_X7_init_96 rfl ?_
  refine pw_iconst (x := 0) h d_X7_init_97 (by decide) ?_
  refine pw_putI 7 h d_X7_init_98 fd_RX7_62 hs45 rfl rfl (by decide) (by decide) ?_
  refine pw_aload_n h 0 d_X7_init_101 rfl ?_
  refine pw_iconst (x := 0) h d_X7_init_102 (by decide) ?_
  refine pw_putI 7 h d_X7_init_103 fd_RX7_66 hs45 rfl rfl (by decide) (by decide) ?_
  refine pw_aload_n h 0 d_X7_init_106 rfl ?_
  refine pw_sipush (x := 600) h d_X7_init_107 (by decide) ?_
  refine pw_putI 7 h d_X7_init_110 fd_RX7_69 hs45 rfl rfl (by decide) (by decide) ?_
  refine pw_aload_n h 0 d_X7_init_113 rfl ?_
  refine pw_new (ci := 3) h d_X7_init_114 (by decide) cl_RX7_72 ins_RX3 ini_RX3 hn44 (by decide) (rok_r (by decide) rok_nil) (rokl_r (by decide) rokl_nil) (by decide) (by decide) ?_
  have hn49 : (((shX5 ((shX0 ((shX0 (((shX4 ((((shX2 (sh ++ [kO 2])) ++ nK5) ++ [kB 120]) ++ [kO 4])) ++ [kQ 4]) ++ [kO 0])) ++ [kO 0])) ++ [kO 5])) ++ [kO 3])).length = 62 := len_app hn44
  have hs50 : (((shX5 ((shX0 ((shX0 (((shX4 ((((shX2 (sh ++ [kO 2])) ++ nK5) ++ [kB 120]) ++ [kO 4])) ++ [kQ 4]) ++ [kO 0])) ++ [kO 0])) ++ [kO 5])) ++ [kO 3]))[0]? = some (kO 7) := get_app hs45
  have hs51 : (((shX5 ((shX0 ((shX0 (((shX4 ((((shX2 (sh ++ [kO 2])) ++ nK5) ++ [kB 120]) ++ [kO 4])) ++ [kQ 4]) ++ [kO 0])) ++ [kO 0])) ++ [kO 5])) ++ [kO 3]))[20]? = some (kQ 4) := get_app hs46
  have hr52 : ((nR0 (u2 (rX5 (nR0 (u2 (rX0 (nR0 (u2 (rX0 (nR0 (u2 (nR0 (u2 (rX4 (nR0 (u2 (nR0 (u2 (nR5 (u2 (rX2 (nR0 R 1) 1 2) 0 0 (some 1)) 7) 0 1 (some 7)) 12) 0 2 (some 12)) 13) 13 14) 0 4 (some 13)) 20) 0 5 (some 20)) 21) 21 22) 0 6 (some 21)) 33) 33 34) 0 7 (some 33)) 45) 45 46) 0 8 (some 45)) 61)) 0 5 = some 20 := by rw [nR0_o (by decide)]; exact hr48
  have hs53 : (((shX5 ((shX0 ((shX0 (((shX4 ((((shX2 (sh ++ [kO 2])) ++ nK5) ++ [kB 120]) ++ [kO 4])) ++ [kQ 4]) ++ [kO 0])) ++ [kO 0])) ++ [kO 5])) ++ [kO 3]))[61]? = some (kO 3) := get_new hn44
  clear hn44 hs45 hs46 hr48
  refine pw_dupR h d_X7_init_117 ?_
  refine pw_callIN (As := []) h d_X7_init_118 mf_X3_init rfl rfl im_yX3_init nw_RX7_74 ⟨by decide, by decide, by decide⟩ rfl rfl (Nat.le_of_ble_eq_true rfl) (by rw [hn49]; exact (rok_r (by decide) (rok_r (by decide) rok_nil))) (by rw [hn49]; exact (rokl_r (by decide) rokl_nil)) (c_X3_init hs53 hn49 (by decide)) (PKn.ret ?_)
  have hn54 : ((shX3 ((shX5 ((shX0 ((shX0 (((shX4 ((((shX2 (sh ++ [kO 2])) ++ nK5) ++ [kB 120]) ++ [kO 4])) ++ [kQ 4]) ++ [kO 0])) ++ [kO 0])) ++ [kO 5])) ++ [kO 3]))).length = 71 := shX3_len hn49
  have hs55 : ((shX3 ((shX5 ((shX0 ((shX0 (((shX4 ((((shX2 (sh ++ [kO 2])) ++ nK5) ++ [kB 120]) ++ [kO 4])) ++ [kQ 4]) ++ [kO 0])) ++ [kO 0])) ++ [kO 5])) ++ [kO 3])))[0]? = some (kO 7) := shX3_get hs50
  have hs56 : ((shX3 ((shX5 ((shX0 ((shX0 (((shX4 ((((shX2 (sh ++ [kO 2])) ++ nK5) ++ [kB 120]) ++ [kO 4])) ++ [kQ 4]) ++ [kO 0])) ++ [kO 0])) ++ [kO 5])) ++ [kO 3])))[20]? = some (kQ 4) := shX3_get hs51
  have hr57 : ((rX3 (nR0 (u2 (rX5 (nR0 (u2 (rX0 (nR0 (u2 (rX0 (nR0 (u2 (nR0 (u2 (rX4 (nR0 (u2 (nR0 (u2 (nR5 (u2 (rX2 (nR0 R 1) 1 2) 0 0 (some 1)) 7) 0 1 (some 7)) 12) 0 2 (some 12)) 13) 13 14) 0 4 (some 13)) 20) 0 5 (some 20)) 21) 21 22) 0 6 (some 21)) 33) 33 34) 0 7 (some 33)) 45) 45 46) 0 8 (some 45)) 61) 61 62)) 0 5 = some 20 := by rw [rX3_o (by decide) (by decide)]; exact hr52
  clear hs50 hs51 hr52
  refine pw_putF 7 h hin d_X7_init_121 fd_RX7_75 hs55 rfl rfl rfl (fun _ => rfl) (fun _ => rfl) (by rw [hn54]; exact (by decide)) ?_
  have hr58 : ((u2 (rX3 (nR0 (u2 (rX5 (nR0 (u2 (rX0 (nR0 (u2 (rX0 (nR0 (u2 (nR0 (u2 (rX4 (nR0 (u2 (nR0 (u2 (nR5 (u2 (rX2 (nR0 R 1) 1 2) 0 0 (some 1)) 7) 0 1 (some 7)) 12) 0 2 (some 12)) 13) 13 14) 0 4 (some 13)) 20) 0 5 (some 20)) 21) 21 22) 0 6 (some 21)) 33) 33 34) 0 7 (some 33)) 45) 45 46) 0 8 (some 45)) 61) 61 62) 0 13 (some 61))) 0 5 = some 20 := by rw [u2_n2 (by decide)]; exact hr57
  clear hr57
  refine pw_aload_n h 0 d_X7_init_124 rfl ?_
  refine pw_iconst (x := 0) h d_X7_init_125 (by decide) ?_
  refine pw_putI 7 h d_X7_init_126 fd_RX7_79 hs55 rfl rfl (by decide) (by decide) ?_
  refine pw_aload_n h 0 d_X7_init_129 rfl ?_
  refine pw_new (ci := 1) h d_X7_init_130 (by decide) cl_RX7_82 ins_RX1 ini_RX1 hn54 (by decide) (rok_r (by decide) rok_nil) (rokl_r (by decide) rokl_nil) (by decide) (by decide) ?_
  have hn59 : (((shX3 ((shX5 ((shX0 ((shX0 (((shX4 ((((shX2 (sh ++ [kO 2])) ++ nK5) ++ [kB 120]) ++ [kO 4])) ++ [kQ 4]) ++ [kO 0])) ++ [kO 0])) ++ [kO 5])) ++ [kO 3])) ++ [kO 1])).length = 72 := len_app hn54
  have hs60 : (((shX3 ((shX5 ((shX0 ((shX0 (((shX4 ((((shX2 (sh ++ [kO 2])) ++ nK5) ++ [kB 120]) ++ [kO 4])) ++ [kQ 4]) ++ [kO 0])) ++ [kO 0])) ++ [kO 5])) ++ [kO 3])) ++ [kO 1]))[0]? = some (kO 7) := get_app hs55
  have hs61 : (((shX3 ((shX5 ((shX0 ((shX0 (((shX4 ((((shX2 (sh ++ [kO 2])) ++ nK5) ++ [kB 120]) ++ [kO 4])) ++ [kQ 4]) ++ [kO 0])) ++ [kO 0])) ++ [kO 5])) ++ [kO 3])) ++ [kO 1]))[20]? = some (kQ 4) := get_app hs56
  have hr62 : ((nR0 (u2 (rX3 (nR0 (u2 (rX5 (nR0 (u2 (rX0 (nR0 (u2 (rX0 (nR0 (u2 (nR0 (u2 (rX4 (nR0 (u2 (nR0 (u2 (nR5 (u2 (rX2 (nR0 R 1) 1 2) 0 0 (some 1)) 7) 0 1 (some 7)) 12) 0 2 (some 12)) 13) 13 14) 0 4 (some 13)) 20) 0 5 (some 20)) 21) 21 22) 0 6 (some 21)) 33) 33 34) 0 7 (some 33)) 45) 45 46) 0 8 (some 45)) 61) 61 62) 0 13 (some 61)) 71)) 0 5 = some 20 := by rw [nR0_o (by decide)]; exact hr58
  have hs63 : (((shX3 ((shX5 ((shX0 ((shX0 (((shX4 ((((shX2 (sh ++ [kO 2])) ++ nK5) ++ [kB 120]) ++ [kO 4])) ++ [kQ 4]) ++ [kO 0])) ++ [kO 0])) ++ [kO 5])) ++ [kO 3])) ++ [kO 1]))[71]? = some (kO 1) := get_new hn54
  clear hn54 hs55 hs56 hr58
  refine pw_dupR h d_X7_init_133 ?_
  refine pw_callIN (As := []) h d_X7_init_134 mf_X1_init rfl rfl im_yX1_init nw_RX7_84 ⟨by decide, by decide, by decide⟩ rfl rfl (Nat.le_of_ble_eq_true rfl) (by rw [hn59]; exact (rok_r (by decide) (rok_r (by decide) rok_nil))) (by rw [hn59]; exact (rokl_r (by decide) rokl_nil)) (c_X1_init hs63 hn59 (by decide)) (PKn.ret ?_)
  have hn64 : ((shX1 ((shX3 ((shX5 ((shX0 ((shX0 (((shX4 ((((shX2 (sh ++ [kO 2])) ++ nK5) ++ [kB 120]) ++ [kO 4])) ++ [kQ 4]) ++ [kO 0])) ++ [kO 0])) ++ [kO 5])) ++ [kO 3])) ++ [kO 1]))).length = 72 := shX1_len hn59
  have hs65 : ((shX1 ((shX3 ((shX5 ((shX0 ((shX0 (((shX4 ((((shX2 (sh ++ [kO 2])) ++ nK5) ++ [kB 120]) ++ [kO 4])) ++ [kQ 4]) ++ [kO 0])) ++ [kO 0])) ++ [kO 5])) ++ [kO 3])) ++ [kO 1])))[0]? = some (kO 7) := shX1_get hs60
  have hs66 : ((shX1 ((shX3 ((shX5 ((shX0 ((shX0 (((shX4 ((((shX2 (sh ++ [kO 2])) ++ nK5) ++ [kB 120]) ++ [kO 4])) ++ [kQ 4]) ++ [kO 0])) ++ [kO 0])) ++ [kO 5])) ++ [kO 3])) ++ [kO 1])))[20]? = some (kQ 4) := shX1_get hs61
  have hr67 : ((rX1 (nR0 (u2 (rX3 (nR0 (u2 (rX5 (nR0 (u2 (rX0 (nR0 (u2 (rX0 (nR0 (u2 (nR0 (u2 (rX4 (nR0 (u2 (nR0 (u2 (nR5 (u2 (rX2 (nR0 R 1) 1 2) 0 0 (some 1)) 7) 0 1 (some 7)) 12) 0 2 (some 12)) 13) 13 14) 0 4 (some 13)) 20) 0 5 (some 20)) 21) 21 22) 0 6 (some 21)) 33) 33 34) 0 7 (some 33)) 45) 45 46) 0 8 (some 45)) 61) 61 62) 0 13 (some 61)) 71) 71 72)) 0 5 = some 20 := by rw [rX1_o (by decide) (by decide)]; exact hr62
  clear hs60 hs61 hr62
  refine pw_putF 7 h hin d_X7_init_137 fd_RX7_85 hs65 rfl rfl rfl (fun _ => rfl) (fun _ => rfl) (by rw [hn64]; exact (by decide)) ?_
  have hr68 : ((u2 (rX1 (nR0 (u2 (rX3 (nR0 (u2 (rX5 (nR0 (u2 (rX0 (nR0 (u2 (rX0 (nR0 (u2 (nR0 (u2 (rX4 (nR0 (u2 (nR0 (u2 (nR5 (u2 (rX2 (nR0 R 1) 1 2) 0 0 (some 1)) 7) 0 1 (some 7)) 12) 0 2 (some 12)) 13) 13 14) 0 4 (some 13)) 20) 0 5 (some 20)) 21) 21 22) 0 6 (some 21)) 33) 33 34) 0 7 (some 33)) 45) 45 46) 0 8 (some 45)) 61) 61 62) 0 13 (some 61)) 71) 71 72) 0 15 (some 71))) 0 5 = some 20 := by rw [u2_n2 (by decide)]; exact hr67
  clear hr67
  refine pw_aload_n h 0 d_X7_init_140 rfl ?_
  refine pw_new (ci := 1) h d_X7_init_141 (by decide) cl_RX7_82 ins_RX1 ini_RX1 hn64 (by decide) (rok_r (by decide) rok_nil) (rokl_r (by decide) rokl_nil) (by decide) (by decide) ?_
  have hn69 : (((shX1 ((shX3 ((shX5 ((shX0 ((shX0 (((shX4 ((((shX2 (sh ++ [kO 2])) ++ nK5) ++ [kB 120]) ++ [kO 4])) ++ [kQ 4]) ++ [kO 0])) ++ [kO 0])) ++ [kO 5])) ++ [kO 3])) ++ [kO 1])) ++ [kO 1])).length = 73 := len_app hn64
  have hs70 : (((shX1 ((shX3 ((shX5 ((shX0 ((shX0 (((shX4 ((((shX2 (sh ++ [kO 2])) ++ nK5) ++ [kB 120]) ++ [kO 4])) ++ [kQ 4]) ++ [kO 0])) ++ [kO 0])) ++ [kO 5])) ++ [kO 3])) ++ [kO 1])) ++ [kO 1]))[0]? = some (kO 7) := get_app hs65
  have hs71 : (((shX1 ((shX3 ((shX5 ((shX0 ((shX0 (((shX4 ((((shX2 (sh ++ [kO 2])) ++ nK5) ++ [kB 120]) ++ [kO 4])) ++ [kQ 4]) ++ [kO 0])) ++ [kO 0])) ++ [kO 5])) ++ [kO 3])) ++ [kO 1])) ++ [kO 1]))[20]? = some (kQ 4) := get_app hs66
  have hr72 : ((nR0 (u2 (rX1 (nR0 (u2 (rX3 (nR0 (u2 (rX5 (nR0 (u2 (rX0 (nR0 (u2 (rX0 (nR0 (u2 (nR0 (u2 (rX4 (nR0 (u2 (nR0 (u2 (nR5 (u2 (rX2 (nR0 R 1) 1 2) 0 0 (some 1)) 7) 0 1 (some 7)) 12) 0 2 (some 12)) 13) 13 14) 0 4 (some 13)) 20) 0 5 (some 20)) 21) 21 22) 0 6 (some 21)) 33) 33 34) 0 7 (some 33)) 45) 45 46) 0 8 (some 45)) 61) 61 62) 0 13 (some 61)) 71) 71 72) 0 15 (some 71)) 72)) 0 5 = some 20 := by rw [nR0_o (by decide)]; exact hr68
  have hs73 : (((shX1 ((shX3 ((shX5 ((shX0 ((shX0 (((shX4 ((((shX2 (sh ++ [kO 2])) ++ nK5) ++ [kB 120]) ++ [kO 4])) ++ [kQ 4]) ++ [kO 0])) ++ [kO 0])) ++ [kO 5])) ++ [kO 3])) ++ [kO 1])) ++ [kO 1]))[72]? = some (kO 1) := get_new hn64
  clear hn64 hs65 hs66 hr68
  refine pw_dupR h d_X7_init_144 ?_
  refine pw_callIN (As := []) h d_X7_init_145 mf_X1_init rfl rfl im_yX1_init nw_RX7_84 ⟨by decide, by decide, by decide⟩ rfl rfl (Nat.le_of_ble_eq_true rfl) (by rw [hn69]; exact (rok_r (by decide) (rok_r (by decide) rok_nil))) (by rw [hn69]; exact (rokl_r (by decide) rokl_nil)) (c_X1_init hs73 hn69 (by decide)) (PKn.ret ?_)
  have hn74 : ((shX1 ((shX1 ((shX3 ((shX5 ((shX0 ((shX0 (((shX4 ((((shX2 (sh ++ [kO 2])) ++ nK5) ++ [kB 120]) ++ [kO 4])) ++ [kQ 4]) ++ [kO 0])) ++ [kO 0])) ++ [kO 5])) ++ [kO 3])) ++ [kO 1])) ++ [kO 1]))).length = 73 := shX1_len hn69
  have hs75 : ((shX1 ((shX1 ((shX3 ((shX5 ((shX0 ((shX0 (((shX4 ((((shX2 (sh ++ [kO 2])) ++ nK5) ++ [kB 120]) ++ [kO 4])) ++ [kQ 4]) ++ [kO 0])) ++ [kO 0])) ++ [kO 5])) ++ [kO 3])) ++ [kO 1])) ++ [kO 1])))[0]? = some (kO 7) := shX1_get hs70
  have hs76 : ((shX1 ((shX1 ((shX3 ((shX5 ((shX0 ((shX0 (((shX4 ((((shX2 (sh ++ [kO 2])) ++ nK5) ++ [kB 120]) ++ [kO 4])) ++ [kQ 4]) ++ [kO 0])) ++ [kO 0])) ++ [kO 5])) ++ [kO 3])) ++ [kO 1])) ++ [kO 1])))[20]? = some (kQ 4) := shX1_get hs71
  have hr77 : ((rX1 (nR0 (u2 (rX1 (nR0 (u2 (rX3 (nR0 (u2 (rX5 (nR0 (u2 (rX0 (nR0 (u2 (rX0 (nR0 (u2 (nR0 (u2 (rX4 (nR0 (u2 (nR0 (u2 (nR5 (u2 (rX2 (nR0 R 1) 1 2) 0 0 (some 1)) 7) 0 1 (some 7)) 12) 0 2 (some 12)) 13) 13 14) 0 4 (some 13)) 20) 0 5 (some 20)) 21) 21 22) 0 6 (some 21)) 33) 33 34) 0 7 (some 33)) 45) 45 46) 0 8 (some 45)) 61) 61 62) 0 13 (some 61)) 71) 71 72) 0 15 (some 71)) 72) 72 73)) 0 5 = some 20 := by rw [rX1_o (by decide) (by decide)]; exact hr72
  clear hs70 hs71 hr72
  refine pw_putF 7 h hin d_X7_init_148 fd_RX7_89 hs75 rfl rfl rfl (fun _ => rfl) (fun _ => rfl) (by rw [hn74]; exact (by decide)) ?_
  have hr78 : ((u2 (rX1 (nR0 (u2 (rX1 (nR0 (u2 (rX3 (nR0 (u2 (rX5 (nR0 (u2 (rX0 (nR0 (u2 (rX0 (nR0 (u2 (nR0 (u2 (rX4 (nR0 (u2 (nR0 (u2 (nR5 (u2 (rX2 (nR0 R 1) 1 2) 0 0 (some 1)) 7) 0 1 (some 7)) 12) 0 2 (some 12)) 13) 13 14) 0 4 (some 13)) 20) 0 5 (some 20)) 21) 21 22) 0 6 (some 21)) 33) 33 34) 0 7 (some 33)) 45) 45 46) 0 8 (some 45)) 61) 61 62) 0 13 (some 61)) 71) 71 72) 0 15 (some 71)) 72) 72 73) 0 16 (some 72))) 0 5 = some 20 := by rw [u2_n2 (by decide)]; exact hr77
  clear hr77
  refine pw_iconst (x := 0) h d_X7_init_151 (by decide) ?_
  refine pw_istore_n (lv' := [(1, .int 0), (0, .ref 0)]) h d_X7_init_152 rfl _ hml (by decide) rfl ?_
  refine pw_iload_n h 0 d_X7_init_153 rfl ?_
  refine pw_iconst (x := 4) h d_X7_init_154 (by decide) ?_
  refine pw_icmp_ge 177 h d_X7_init_155 (by decide) (fun c_ => absurd c_ (by decide)) (fun c_ => ?_)
  refine pw_aload_n h 1 d_X7_init_158 rfl ?_
  refine pw_getR (j := 20) 7 h d_X7_init_159 fd_RX7_38 hs75 rfl hr78 ?_
  refine pw_iload_n h 0 d_X7_init_162 rfl ?_
  refine pw_new (ci := 6) h d_X7_init_163 (by decide) cl_RX7_36 ins_RX6 ini_RX6 hn74 (by decide) (rok_i (rok_r (by decide) rok_nil)) (rokl_i (rokl_r (by decide) rokl_nil)) (by decide) (by decide) ?_
  have hn79 : (((shX1 ((shX1 ((shX3 ((shX5 ((shX0 ((shX0 (((shX4 ((((shX2 (sh ++ [kO 2])) ++ nK5) ++ [kB 120]) ++ [kO 4])) ++ [kQ 4]) ++ [kO 0])) ++ [kO 0])) ++ [kO 5])) ++ [kO 3])) ++ [kO 1])) ++ [kO 1])) ++ [kO 6])).length = 74 := len_app hn74
  have hs80 : (((shX1 ((shX1 ((shX3 ((shX5 ((shX0 ((shX0 (((shX4 ((((shX2 (sh ++ [kO 2])) ++ nK5) ++ [kB 120]) ++ [kO 4])) ++ [kQ 4]) ++ [kO 0])) ++ [kO 0])) ++ [kO 5])) ++ [kO 3])) ++ [kO 1])) ++ [kO 1])) ++ [kO 6]))[0]? = some (kO 7) := get_app hs75
  have hs81 : (((shX1 ((shX1 ((shX3 ((shX5 ((shX0 ((shX0 (((shX4 ((((shX2 (sh ++ [kO 2])) ++ nK5) ++ [kB 120]) ++ [kO 4])) ++ [kQ 4]) ++ [kO 0])) ++ [kO 0])) ++ [kO 5])) ++ [kO 3])) ++ [kO 1])) ++ [kO 1])) ++ [kO 6]))[20]? = some (kQ 4) := get_app hs76
  have hr82 : ((nR0 (u2 (rX1 (nR0 (u2 (rX1 (nR0 (u2 (rX3 (nR0 (u2 (rX5 (nR0 (u2 (rX0 (nR0 (u2 (rX0 (nR0 (u2 (nR0 (u2 (rX4 (nR0 (u2 (nR0 (u2 (nR5 (u2 (rX2 (nR0 R 1) 1 2) 0 0 (some 1)) 7) 0 1 (some 7)) 12) 0 2 (some 12)) 13) 13 14) 0 4 (some 13)) 20) 0 5 (some 20)) 21) 21 22) 0 6 (some 21)) 33) 33 34) 0 7 (some 33)) 45) 45 46) 0 8 (some 45)) 61) 61 62) 0 13 (some 61)) 71) 71 72) 0 15 (some 71)) 72) 72 73) 0 16 (some 72)) 73)) 0 5 = some 20 := by rw [nR0_o (by decide)]; exact hr78
  have hs83 : (((shX1 ((shX1 ((shX3 ((shX5 ((shX0 ((shX0 (((shX4 ((((shX2 (sh ++ [kO 2])) ++ nK5) ++ [kB 120]) ++ [kO 4])) ++ [kQ 4]) ++ [kO 0])) ++ [kO 0])) ++ [kO 5])) ++ [kO 3])) ++ [kO 1])) ++ [kO 1])) ++ [kO 6]))[73]? = some (kO 6) := get_new hn74
  clear hn74 hs75 hs76 hr78
  refine pw_dupR h d_X7_init_166 ?_
  refine pw_callIN (As := []) h d_X7_init_167 mf_X6_init rfl rfl im_yX6_init nw_RX7_92 ⟨by decide, by decide, by decide⟩ rfl rfl (Nat.le_of_ble_eq_true rfl) (by rw [hn79]; exact (rok_r (by decide) (rok_i (rok_r (by decide) rok_nil)))) (by rw [hn79]; exact (rokl_i (rokl_r (by decide) rokl_nil))) (c_X6_init hs83 hn79 (by decide)) (PKn.ret ?_)
  have hn84 : ((shX6 ((shX1 ((shX1 ((shX3 ((shX5 ((shX0 ((shX0 (((shX4 ((((shX2 (sh ++ [kO 2])) ++ nK5) ++ [kB 120]) ++ [kO 4])) ++ [kQ 4]) ++ [kO 0])) ++ [kO 0])) ++ [kO 5])) ++ [kO 3])) ++ [kO 1])) ++ [kO 1])) ++ [kO 6]))).length = 75 := shX6_len hn79
  have hs85 : ((shX6 ((shX1 ((shX1 ((shX3 ((shX5 ((shX0 ((shX0 (((shX4 ((((shX2 (sh ++ [kO 2])) ++ nK5) ++ [kB 120]) ++ [kO 4])) ++ [kQ 4]) ++ [kO 0])) ++ [kO 0])) ++ [kO 5])) ++ [kO 3])) ++ [kO 1])) ++ [kO 1])) ++ [kO 6])))[0]? = some (kO 7) := shX6_get hs80
  have hs86 : ((shX6 ((shX1 ((shX1 ((shX3 ((shX5 ((shX0 ((shX0 (((shX4 ((((shX2 (sh ++ [kO 2])) ++ nK5) ++ [kB 120]) ++ [kO 4])) ++ [kQ 4]) ++ [kO 0])) ++ [kO 0])) ++ [kO 5])) ++ [kO 3])) ++ [kO 1])) ++ [kO 1])) ++ [kO 6])))[20]? = some (kQ 4) := shX6_get hs81
  have hs87 : ((shX6 ((shX1 ((shX1 ((shX3 ((shX5 ((shX0 ((shX0 (((shX4 ((((shX2 (sh ++ [kO 2])) ++ nK5) ++ [kB 120]) ++ [kO 4])) ++ [kQ 4]) ++ [kO 0])) ++ [kO 0])) ++ [kO 5])) ++ [kO 3])) ++ [kO 1])) ++ [kO 1])) ++ [kO 6])))[73]? = some (kO 6) := shX6_get hs83
  have hr88 : ((rX6 (nR0 (u2 (rX1 (nR0 (u2 (rX1 (nR0 (u2 (rX3 (nR0 (u2 (rX5 (nR0 (u2 (rX0 (nR0 (u2 (rX0 (nR0 (u2 (nR0 (u2 (rX4 (nR0 (u2 (nR0 (u2 (nR5 (u2 (rX2 (nR0 R 1) 1 2) 0 0 (some 1)) 7) 0 1 (some 7)) 12) 0 2 (some 12)) 13) 13 14) 0 4 (some 13)) 20) 0 5 (some 20)) 21) 21 22) 0 6 (some 21)) 33) 33 34) 0 7 (some 33)) 45) 45 46) 0 8 (some 45)) 61) 61 62) 0 13 (some 61)) 71) 71 72) 0 15 (some 71)) 72) 72 73) 0 16 (some 72)) 73) 73 74)) 0 5 = some 20 := by rw [rX6_o (by decide) (by decide)]; exact hr82
  clear hs80 hs81 hs83 hr82
  refine pw_astq (j := 0) h d_X7_init_170 hs86 hs87 (px_ix_nI (j := 0) (by decide) (by decide)) ?_
  have hr89 : ((u2 (rX6 (nR0 (u2 (rX1 (nR0 (u2 (rX1 (nR0 (u2 (rX3 (nR0 (u2 (rX5 (nR0 (u2 (rX0 (nR0 (u2 (rX0 (nR0 (u2 (nR0 (u2 (rX4 (nR0 (u2 (nR0 (u2 (nR5 (u2 (rX2 (nR0 R 1) 1 2) 0 0 (some 1)) 7) 0 1 (some 7)) 12) 0 2 (some 12)) 13) 13 14) 0 4 (some 13)) 20) 0 5 (some 20)) 21) 21 22) 0 6 (some 21)) 33) 33 34) 0 7 (some 33)) 45) 45 46) 0 8 (some 45)) 61) 61 62) 0 13 (some 61)) 71) 71 72) 0 15 (some 71)) 72) 72 73) 0 16 (some 72)) 73) 73 74) 20 0 (some 73))) 0 5 = some 20 := by rw [u2_n1 (by decide)]; exact hr88
  clear hr88
  refine pw_iinc (lv' := [(1, .int 1), (0, .ref 0)]) 1 h d_X7_init_171 0 rfl (by decide) _ hml (by decide) rfl ?_
  refine pw_goto 153 h d_X7_init_174 (by decide) ?_
  refine pw_iload_n h 0 d_X7_init_153 rfl ?_
  refine pw_iconst (x := 4) h d_X7_init_154 (by decide) ?_
  refine pw_icmp_ge 177 h d_X7_init_155 (by decide) (fun c_ => absurd c_ (by decide)) (fun c_ => ?_)
  refine pw_aload_n h 1 d_X7_init_158 rfl ?_
  refine pw_getR (j := 20) 7 h d_X7_init_159 fd_RX7_38 hs85 rfl hr89 ?_
  refine pw_iload_n h 0 d_X7_init_162 rfl ?_
  refine pw_new (ci := 6) h d_X7_init_163 (by decide) cl_RX7_36 ins_RX6 ini_RX6 hn84 (by decide) (rok_i (rok_r (by decide) rok_nil)) (rokl_i (rokl_r (by decide) rokl_nil)) (by decide) (by decide) ?_
  have hn90 : (((shX6 ((shX1 ((shX1 ((shX3 ((shX5 ((shX0 ((shX0 (((shX4 ((((shX2 (sh ++ [kO 2])) ++ nK5) ++ [kB 120]) ++ [kO 4])) ++ [kQ 4]) ++ [kO 0])) ++ [kO 0])) ++ [kO 5])) ++ [kO 3])) ++ [kO 1])) ++ [kO 1])) ++ [kO 6])) ++ [kO 6])).length = 76 := len_app hn84
  have hs91 : (((shX6 ((shX1 ((shX1 ((shX3 ((shX5 ((shX0 ((shX0 (((shX4 ((((shX2 (sh ++ [kO 2])) ++ nK5) ++ [kB 120]) ++ [kO 4])) ++ [kQ 4]) ++ [kO 0])) ++ [kO 0])) ++ [kO 5])) ++ [kO 3])) ++ [kO 1])) ++ [kO 1])) ++ [kO 6])) ++ [kO 6]))[0]? = some (kO 7) := get_app hs85
  have hs92 : (((shX6 ((shX1 ((shX1 ((shX3 ((shX5 ((shX0 ((shX0 (((shX4 ((((shX2 (sh ++ [kO 2])) ++ nK5) ++ [kB 120]) ++ [kO 4])) ++ [kQ 4]) ++ [kO 0])) ++ [kO 0])) ++ [kO 5])) ++ [kO 3])) ++ [kO 1])) ++ [kO 1])) ++ [kO 6])) ++ [kO 6]))[20]? = some (kQ 4) := get_app hs86
  have hr93 : ((nR0 (u2 (rX6 (nR0 (u2 (rX1 (nR0 (u2 (rX1 (nR0 (u2 (rX3 (nR0 (u2 (rX5 (nR0 (u2 (rX0 (nR0 (u2 (rX0 (nR0 (u2 (nR0 (u2 (rX4 (nR0 (u2 (nR0 (u2 (nR5 (u2 (rX2 (nR0 R 1) 1 2) 0 0 (some 1)) 7) 0 1 (some 7)) 12) 0 2 (some 12)) 13) 13 14) 0 4 (some 13)) 20) 0 5 (some 20)) 21) 21 22) 0 6 (some 21)) 33) 33 34) 0 7 (some 33)) 45) 45 46) 0 8 (some 45)) 61) 61 62) 0 13 (some 61)) 71) 71 72) 0 15 (some 71)) 72) 72 73) 0 16 (some 72)) 73) 73 74) 20 0 (some 73)) 75)) 0 5 = some 20 := by rw [nR0_o (by decide)]; exact hr89
  have hs94 : (((shX6 ((shX1 ((shX1 ((shX3 ((shX5 ((shX0 ((shX0 (((shX4 ((((shX2 (sh ++ [kO 2])) ++ nK5) ++ [kB 120]) ++ [kO 4])) ++ [kQ 4]) ++ [kO 0])) ++ [kO 0])) ++ [kO 5])) ++ [kO 3])) ++ [kO 1])) ++ [kO 1])) ++ [kO 6])) ++ [kO 6]))[75]? = some (kO 6) := get_new hn84
  clear hn84 hs85 hs86 hr89
  refine pw_dupR h d_X7_init_166 ?_
  refine pw_callIN (As := []) h d_X7_init_167 mf_X6_init rfl rfl im_yX6_init nw_RX7_92 ⟨by decide, by decide, by decide⟩ rfl rfl (Nat.le_of_ble_eq_true rfl) (by rw [hn90]; exact (rok_r (by decide) (rok_i (rok_r (by decide) rok_nil)))) (by rw [hn90]; exact (rokl_i (rokl_r (by decide) rokl_nil))) (c_X6_init hs94 hn90 (by decide)) (PKn.ret ?_)
  have hn95 : ((shX6 ((shX6 ((shX1 ((shX1 ((shX3 ((shX5 ((shX0 ((shX0 (((shX4 ((((shX2 (sh ++ [kO 2])) ++ nK5) ++ [kB 120]) ++ [kO 4])) ++ [kQ 4]) ++ [kO 0])) ++ [kO 0])) ++ [kO 5])) ++ [kO 3])) ++ [kO 1])) ++ [kO 1])) ++ [kO 6])) ++ [kO 6]))).length = 77 := shX6_len hn90
  have hs96 : ((shX6 ((shX6 ((shX1 ((shX1 ((shX3 ((shX5 ((shX0 ((shX0 (((shX4 ((((shX2 (sh ++ [kO 2])) ++ nK5) ++ [kB 120]) ++ [kO 4])) ++ [kQ 4]) ++ [kO 0])) ++ [kO 0])) ++ [kO 5])) ++ [kO 3])) ++ [kO 1])) ++ [kO 1])) ++ [kO 6])) ++ [kO 6])))[0]? = some (kO 7) := shX6_get hs91
  have hs97 : ((shX6 ((shX6 ((shX1 ((shX1 ((shX3 ((shX5 ((shX0 ((shX0 (((shX4 ((((shX2 (sh ++ [kO 2])) ++ nK5) ++ [kB 120]) ++ [kO 4])) ++ [kQ 4]) ++ [kO 0])) ++ [kO 0])) ++ [kO 5])) ++ [kO 3])) ++ [kO 1])) ++ [kO 1])) ++ [kO 6])) ++ [kO 6])))[20]? = some (kQ 4) := shX6_get hs92
  have hs98 : ((shX6 ((shX6 ((shX1 ((shX1 ((shX3 ((shX5 ((shX0 ((shX0 (((shX4 ((((shX2 (sh ++ [kO 2])) ++ nK5) ++ [kB 120]) ++ [kO 4])) ++ [kQ 4]) ++ [kO 0])) ++ [kO 0])) ++ [kO 5])) ++ [kO 3])) ++ [kO 1])) ++ [kO 1])) ++ [kO 6])) ++ [kO 6])))[75]? = some (kO 6) := shX6_get hs94
  have hr99 : ((rX6 (nR0 (u2 (rX6 (nR0 (u2 (rX1 (nR0 (u2 (rX1 (nR0 (u2 (rX3 (nR0 (u2 (rX5 (nR0 (u2 (rX0 (nR0 (u2 (rX0 (nR0 (u2 (nR0 (u2 (rX4 (nR0 (u2 (nR0 (u2 (nR5 (u2 (rX2 (nR0 R 1) 1 2) 0 0 (some 1)) 7) 0 1 (some 7)) 12) 0 2 (some 12)) 13) 13 14) 0 4 (some 13)) 20) 0 5 (some 20)) 21) 21 22) 0 6 (some 21)) 33) 33 34) 0 7 (some 33)) 45) 45 46) 0 8 (some 45)) 61) 61 62) 0 13 (some 61)) 71) 71 72) 0 15 (some 71)) 72) 72 73) 0 16 (some 72)) 73) 73 74) 20 0 (some 73)) 75) 75 76)) 0 5 = some 20 := by rw [rX6_o (by decide) (by decide)]; exact hr93
  clear hs91 hs92 hs94 hr93
  refine pw_astq (j := 1) h d_X7_init_170 hs97 hs98 (px_ix_nI (j := 1) (by decide) (by decide)) ?_
  have hr100 : ((u2 (rX6 (nR0 (u2 (rX6 (nR0 (u2 (rX1 (nR0 (u2 (rX1 (nR0 (u2 (rX3 (nR0 (u2 (rX5 (nR0 (u2 (rX0 (nR0 (u2 (rX0 (nR0 (u2 (nR0 (u2 (rX4 (nR0 (u2 (nR0 (u2 (nR5 (u2 (rX2 (nR0 R 1) 1 2) 0 0 (some 1)) 7) 0 1 (some 7)) 12) 0 2 (some 12)) 13) 13 14) 0 4 (some 13)) 20) 0 5 (some 20)) 21) 21 22) 0 6 (some 21)) 33) 33 34) 0 7 (some 33)) 45) 45 46) 0 8 (some 45)) 61) 61 62) 0 13 (some 61)) 71) 71 72) 0 15 (some 71)) 72) 72 73) 0 16 (some 72)) 73) 73 74) 20 0 (some 73)) 75) 75 76) 20 1 (some 75))) 0 5 = some 20 := by rw [u2_n1 (by decide)]; exact hr99
  clear hr99
  refine pw_iinc (lv' := [(1, .int 2), (0, .ref 0)]) 2 h d_X7_init_171 0 rfl (by decide) _ hml (by decide) rfl ?_
  refine pw_goto 153 h d_X7_init_174 (by decide) ?_
  refine pw_iload_n h 0 d_X7_init_153 rfl ?_
  refine pw_iconst (x := 4) h d_X7_init_154 (by decide) ?_
  refine pw_icmp_ge 177 h d_X7_init_155 (by decide) (fun c_ => absurd c_ (by decide)) (fun c_ => ?_)
  refine pw_aload_n h 1 d_X7_init_158 rfl ?_
  refine pw_getR (j := 20) 7 h d_X7_init_159 fd_RX7_38 hs96 rfl hr100 ?_
  refine pw_iload_n h 0 d_X7_init_162 rfl ?_
  refine pw_new (ci := 6) h d_X7_init_163 (by decide) cl_RX7_36 ins_RX6 ini_RX6 hn95 (by decide) (rok_i (rok_r (by decide) rok_nil)) (rokl_i (rokl_r (by decide) rokl_nil)) (by decide) (by decide) ?_
  have hn101 : (((shX6 ((shX6 ((shX1 ((shX1 ((shX3 ((shX5 ((shX0 ((shX0 (((shX4 ((((shX2 (sh ++ [kO 2])) ++ nK5) ++ [kB 120]) ++ [kO 4])) ++ [kQ 4]) ++ [kO 0])) ++ [kO 0])) ++ [kO 5])) ++ [kO 3])) ++ [kO 1])) ++ [kO 1])) ++ [kO 6])) ++ [kO 6])) ++ [kO 6])).length = 78 := len_app hn95
  have hs102 : (((shX6 ((shX6 ((shX1 ((shX1 ((shX3 ((shX5 ((shX0 ((shX0 (((shX4 ((((shX2 (sh ++ [kO 2])) ++ nK5) ++ [kB 120]) ++ [kO 4])) ++ [kQ 4]) ++ [kO 0])) ++ [kO 0])) ++ [kO 5])) ++ [kO 3])) ++ [kO 1])) ++ [kO 1])) ++ [kO 6])) ++ [kO 6])) ++ [kO 6]))[0]? = some (kO 7) := get_app hs96
  have hs103 : (((shX6 ((shX6 ((shX1 ((shX1 ((shX3 ((shX5 ((shX0 ((shX0 (((shX4 ((((shX2 (sh ++ [kO 2])) ++ nK5) ++ [kB 120]) ++ [kO 4])) ++ [kQ 4]) ++ [kO 0])) ++ [kO 0])) ++ [kO 5])) ++ [kO 3])) ++ [kO 1])) ++ [kO 1])) ++ [kO 6])) ++ [kO 6])) ++ [kO 6]))[20]? = some (kQ 4) := get_app hs97
  have hr104 : ((nR0 (u2 (rX6 (nR0 (u2 (rX6 (nR0 (u2 (rX1 (nR0 (u2 (rX1 (nR0 (u2 (rX3 (nR0 (u2 (rX5 (nR0 (u2 (rX0 (nR0 (u2 (rX0 (nR0 (u2 (nR0 (u2 (rX4 (nR0 (u2 (nR0 (u2 (nR5 (u2 (rX2 (nR0 R 1) 1 2) 0 0 (some 1)) 7) 0 1 (some 7)) 12) 0 2 (some 12)) 13) 13 14) 0 4 (some 13)) 20) 0 5 (some 20)) 21) 21 22) 0 6 (some 21)) 33) 33 34) 0 7 (some 33)) 45) 45 46) 0 8 (some 45)) 61) 61 62) 0 13 (some 61)) 71) 71 72) 0 15 (some 71)) 72) 72 73) 0 16 (some 72)) 73) 73 74) 20 0 (some 73)) 75) 75 76) 20 1 (some 75)) 77)) 0 5 = some 20 := by rw [nR0_o (by decide)]; exact hr100
  have hs105 : (((shX6 ((shX6 ((shX1 ((shX1 ((shX3 ((shX5 ((shX0 ((shX0 (((shX4 ((((shX2 (sh ++ [kO 2])) ++ nK5) ++ [kB 120]) ++ [kO 4])) ++ [kQ 4]) ++ [kO 0])) ++ [kO 0])) ++ [kO 5])) ++ [kO 3])) ++ [kO 1])) ++ [kO 1])) ++ [kO 6])) ++ [kO 6])) ++ [kO 6]))[77]? = some (kO 6) := get_new hn95
  clear hn95 hs96 hs97 hr100
  refine pw_dupR h d_X7_init_166 ?_
  refine pw_callIN (As := []) h d_X7_init_167 mf_X6_init rfl rfl im_yX6_init nw_RX7_92 ⟨by decide, by decide, by decide⟩ rfl rfl (Nat.le_of_ble_eq_true rfl) (by rw [hn101]; exact (rok_r (by decide) (rok_i (rok_r (by decide) rok_nil)))) (by rw [hn101]; exact (rokl_i (rokl_r (by decide) rokl_nil))) (c_X6_init hs105 hn101 (by decide)) (PKn.ret ?_)
  have hn106 : ((shX6 ((shX6 ((shX6 ((shX1 ((shX1 ((shX3 ((shX5 ((shX0 ((shX0 (((shX4 ((((shX2 (sh ++ [kO 2])) ++ nK5) ++ [kB 120]) ++ [kO 4])) ++ [kQ 4]) ++ [kO 0])) ++ [kO 0])) ++ [kO 5])) ++ [kO 3])) ++ [kO 1])) ++ [kO 1])) ++ [kO 6])) ++ [kO 6])) ++ [kO 6]))).length = 79 := shX6_len hn101
  have hs107 : ((shX6 ((shX6 ((shX6 ((shX1 ((shX1 ((shX3 ((shX5 ((shX0 ((shX0 (((shX4 ((((shX2 (sh ++ [kO 2])) ++ nK5) ++ [kB 120]) ++ [kO 4])) ++ [kQ 4]) ++ [kO 0])) ++ [kO 0])) ++ [kO 5])) ++ [kO 3])) ++ [kO 1])) ++ [kO 1])) ++ [kO 6])) ++ [kO 6])) ++ [kO 6])))[0]? = some (kO 7) := shX6_get hs102
  have hs108 : ((shX6 ((shX6 ((shX6 ((shX1 ((shX1 ((shX3 ((shX5 ((shX0 ((shX0 (((shX4 ((((shX2 (sh ++ [kO 2])) ++ nK5) ++ [kB 120]) ++ [kO 4])) ++ [kQ 4]) ++ [kO 0])) ++ [kO 0])) ++ [kO 5])) ++ [kO 3])) ++ [kO 1])) ++ [kO 1])) ++ [kO 6])) ++ [kO 6])) ++ [kO 6])))[20]? = some (kQ 4) := shX6_get hs103
  have hs109 : ((shX6 ((shX6 ((shX6 ((shX1 ((shX1 ((shX3 ((shX5 ((shX0 ((shX0 (((shX4 ((((shX2 (sh ++ [kO 2])) ++ nK5) ++ [kB 120]) ++ [kO 4])) ++ [kQ 4]) ++ [kO 0])) ++ [kO 0])) ++ [kO 5])) ++ [kO 3])) ++ [kO 1])) ++ [kO 1])) ++ [kO 6])) ++ [kO 6])) ++ [kO 6])))[77]? = some (kO 6) := shX6_get hs105
  have hr110 : ((rX6 (nR0 (u2 (rX6 (nR0 (u2 (rX6 (nR0 (u2 (rX1 (nR0 (u2 (rX1 (nR0 (u2 (rX3 (nR0 (u2 (rX5 (nR0 (u2 (rX0 (nR0 (u2 (rX0 (nR0 (u2 (nR0 (u2 (rX4 (nR0 (u2 (nR0 (u2 (nR5 (u2 (rX2 (nR0 R 1) 1 2) 0 0 (some 1)) 7) 0 1 (some 7)) 12) 0 2 (some 12)) 13) 13 14) 0 4 (some 13)) 20) 0 5 (some 20)) 21) 21 22) 0 6 (some 21)) 33) 33 34) 0 7 (some 33)) 45) 45 46) 0 8 (some 45)) 61) 61 62) 0 13 (some 61)) 71) 71 72) 0 15 (some 71)) 72) 72 73) 0 16 (some 72)) 73) 73 74) 20 0 (some 73)) 75) 75 76) 20 1 (some 75)) 77) 77 78)) 0 5 = some 20 := by rw [rX6_o (by decide) (by decide)]; exact hr104
  clear hs102 hs103 hs105 hr104
  refine pw_astq (j := 2) h d_X7_init_170 hs108 hs109 (px_ix_nI (j := 2) (by decide) (by decide)) ?_
  have hr111 : ((u2 (rX6 (nR0 (u2 (rX6 (nR0 (u2 (rX6 (nR0 (u2 (rX1 (nR0 (u2 (rX1 (nR0 (u2 (rX3 (nR0 (u2 (rX5 (nR0 (u2 (rX0 (nR0 (u2 (rX0 (nR0 (u2 (nR0 (u2 (rX4 (nR0 (u2 (nR0 (u2 (nR5 (u2 (rX2 (nR0 R 1) 1 2) 0 0 (some 1)) 7) 0 1 (some 7)) 12) 0 2 (some 12)) 13) 13 14) 0 4 (some 13)) 20) 0 5 (some 20)) 21) 21 22) 0 6 (some 21)) 33) 33 34) 0 7 (some 33)) 45) 45 46) 0 8 (some 45)) 61) 61 62) 0 13 (some 61)) 71) 71 72) 0 15 (some 71)) 72) 72 73) 0 16 (some 72)) 73) 73 74) 20 0 (some 73)) 75) 75 76) 20 1 (some 75)) 77) 77 78) 20 2 (some 77))) 0 5 = some 20 := by rw [u2_n1 (by decide)]; exact hr110
  clear hr110
  refine pw_iinc (lv' := [(1, .int 3), (0, .ref 0)]) 3 h d_X7_init_171 0 rfl (by decide) _ hml (by decide) rfl ?_
  refine pw_goto 153 h d_X7_init_174 (by decide) ?_
  refine pw_iload_n h 0 d_X7_init_153 rfl ?_
  refine pw_iconst (x := 4) h d_X7_init_154 (by decide) ?_
  refine pw_icmp_ge 177 h d_X7_init_155 (by decide) (fun c_ => absurd c_ (by decide)) (fun c_ => ?_)
  refine pw_aload_n h 1 d_X7_init_158 rfl ?_
  refine pw_getR (j := 20) 7 h d_X7_init_159 fd_RX7_38 hs107 rfl hr111 ?_
  refine pw_iload_n h 0 d_X7_init_162 rfl ?_
  refine pw_new (ci := 6) h d_X7_init_163 (by decide) cl_RX7_36 ins_RX6 ini_RX6 hn106 (by decide) (rok_i (rok_r (by decide) rok_nil)) (rokl_i (rokl_r (by decide) rokl_nil)) (by decide) (by decide) ?_
  have hn112 : (((shX6 ((shX6 ((shX6 ((shX1 ((shX1 ((shX3 ((shX5 ((shX0 ((shX0 (((shX4 ((((shX2 (sh ++ [kO 2])) ++ nK5) ++ [kB 120]) ++ [kO 4])) ++ [kQ 4]) ++ [kO 0])) ++ [kO 0])) ++ [kO 5])) ++ [kO 3])) ++ [kO 1])) ++ [kO 1])) ++ [kO 6])) ++ [kO 6])) ++ [kO 6])) ++ [kO 6])).length = 80 := len_app hn106
  have hs113 : (((shX6 ((shX6 ((shX6 ((shX1 ((shX1 ((shX3 ((shX5 ((shX0 ((shX0 (((shX4 ((((shX2 (sh ++ [kO 2])) ++ nK5) ++ [kB 120]) ++ [kO 4])) ++ [kQ 4]) ++ [kO 0])) ++ [kO 0])) ++ [kO 5])) ++ [kO 3])) ++ [kO 1])) ++ [kO 1])) ++ [kO 6])) ++ [kO 6])) ++ [kO 6])) ++ [kO 6]))[0]? = some (kO 7) := get_app hs107
  have hs114 : (((shX6 ((shX6 ((shX6 ((shX1 ((shX1 ((shX3 ((shX5 ((shX0 ((shX0 (((shX4 ((((shX2 (sh ++ [kO 2])) ++ nK5) ++ [kB 120]) ++ [kO 4])) ++ [kQ 4]) ++ [kO 0])) ++ [kO 0])) ++ [kO 5])) ++ [kO 3])) ++ [kO 1])) ++ [kO 1])) ++ [kO 6])) ++ [kO 6])) ++ [kO 6])) ++ [kO 6]))[20]? = some (kQ 4) := get_app hs108
  have hr115 : ((nR0 (u2 (rX6 (nR0 (u2 (rX6 (nR0 (u2 (rX6 (nR0 (u2 (rX1 (nR0 (u2 (rX1 (nR0 (u2 (rX3 (nR0 (u2 (rX5 (nR0 (u2 (rX0 (nR0 (u2 (rX0 (nR0 (u2 (nR0 (u2 (rX4 (nR0 (u2 (nR0 (u2 (nR5 (u2 (rX2 (nR0 R 1) 1 2) 0 0 (some 1)) 7) 0 1 (some 7)) 12) 0 2 (some 12)) 13) 13 14) 0 4 (some 13)) 20) 0 5 (some 20)) 21) 21 22) 0 6 (some 21)) 33) 33 34) 0 7 (some 33)) 45) 45 46) 0 8 (some 45)) 61) 61 62) 0 13 (some 61)) 71) 71 72) 0 15 (some 71)) 72) 72 73) 0 16 (some 72)) 73) 73 74) 20 0 (some 73)) 75) 75 76) 20 1 (some 75)) 77) 77 78) 20 2 (some 77)) 79)) 0 5 = some 20 := by rw [nR0_o (by decide)]; exact hr111
  have hs116 : (((shX6 ((shX6 ((shX6 ((shX1 ((shX1 ((shX3 ((shX5 ((shX0 ((shX0 (((shX4 ((((shX2 (sh ++ [kO 2])) ++ nK5) ++ [kB 120]) ++ [kO 4])) ++ [kQ 4]) ++ [kO 0])) ++ [kO 0])) ++ [kO 5])) ++ [kO 3])) ++ [kO 1])) ++ [kO 1])) ++ [kO 6])) ++ [kO 6])) ++ [kO 6])) ++ [kO 6]))[79]? = some (kO 6) := get_new hn106
  clear hn106 hs107 hs108 hr111
  refine pw_dupR h d_X7_init_166 ?_
  refine pw_callIN (As := []) h d_X7_init_167 mf_X6_init rfl rfl im_yX6_init nw_RX7_92 ⟨by decide, by decide, by decide⟩ rfl rfl (Nat.le_of_ble_eq_true rfl) (by rw [hn112]; exact (rok_r (by decide) (rok_i (rok_r (by decide) rok_nil)))) (by rw [hn112]; exact (rokl_i (rokl_r (by decide) rokl_nil))) (c_X6_init hs116 hn112 (by decide)) (PKn.ret ?_)
  have hn117 : ((shX6 ((shX6 ((shX6 ((shX6 ((shX1 ((shX1 ((shX3 ((shX5 ((shX0 ((shX0 (((shX4 ((((shX2 (sh ++ [kO 2])) ++ nK5) ++ [kB 120]) ++ [kO 4])) ++ [kQ 4]) ++ [kO 0])) ++ [kO 0])) ++ [kO 5])) ++ [kO 3])) ++ [kO 1])) ++ [kO 1])) ++ [kO 6])) ++ [kO 6])) ++ [kO 6])) ++ [kO 6]))).length = 81 := shX6_len hn112
  have hs118 : ((shX6 ((shX6 ((shX6 ((shX6 ((shX1 ((shX1 ((shX3 ((shX5 ((shX0 ((shX0 (((shX4 ((((shX2 (sh ++ [kO 2])) ++ nK5) ++ [kB 120]) ++ [kO 4])) ++ [kQ 4]) ++ [kO 0])) ++ [kO 0])) ++ [kO 5])) ++ [kO 3])) ++ [kO 1])) ++ [kO 1])) ++ [kO 6])) ++ [kO 6])) ++ [kO 6])) ++ [kO 6])))[0]? = some (kO 7) := shX6_get hs113
  have hs119 : ((shX6 ((shX6 ((shX6 ((shX6 ((shX1 ((shX1 ((shX3 ((shX5 ((shX0 ((shX0 (((shX4 ((((shX2 (sh ++ [kO 2])) ++ nK5) ++ [kB 120]) ++ [kO 4])) ++ [kQ 4]) ++ [kO 0])) ++ [kO 0])) ++ [kO 5])) ++ [kO 3])) ++ [kO 1])) ++ [kO 1])) ++ [kO 6])) ++ [kO 6])) ++ [kO 6])) ++ [kO 6])))[20]? = some (kQ 4) := shX6_get hs114
  have hs120 : ((shX6 ((shX6 ((shX6 ((shX6 ((shX1 ((shX1 ((shX3 ((shX5 ((shX0 ((shX0 (((shX4 ((((shX2 (sh ++ [kO 2])) ++ nK5) ++ [kB 120]) ++ [kO 4])) ++ [kQ 4]) ++ [kO 0])) ++ [kO 0])) ++ [kO 5])) ++ [kO 3])) ++ [kO 1])) ++ [kO 1])) ++ [kO 6])) ++ [kO 6])) ++ [kO 6])) ++ [kO 6])))[79]? = some (kO 6) := shX6_get hs116
  have hr121 : ((rX6 (nR0 (u2 (rX6 (nR0 (u2 (rX6 (nR0 (u2 (rX6 (nR0 (u2 (rX1 (nR0 (u2 (rX1 (nR0 (u2 (rX3 (nR0 (u2 (rX5 (nR0 (u2 (rX0 (nR0 (u2 (rX0 (nR0 (u2 (nR0 (u2 (rX4 (nR0 (u2 (nR0 (u2 (nR5 (u2 (rX2 (nR0 R 1) 1 2) 0 0 (some 1)) 7) 0 1 (some 7)) 12) 0 2 (some 12)) 13) 13 14) 0 4 (some 13)) 20) 0 5 (some 20)) 21) 21 22) 0 6 (some 21)) 33) 33 34) 0 7 (some 33)) 45) 45 46) 0 8 (some 45)) 61) 61 62) 0 13 (some 61)) 71) 71 72) 0 15 (some 71)) 72) 72 73) 0 16 (some 72)) 73) 73 74) 20 0 (some 73)) 75) 75 76) 20 1 (some 75)) 77) 77 78) 20 2 (some 77)) 79) 79 80)) 0 5 = some 20 := by rw [rX6_o (by decide) (by decide)]; exact hr115
  clear hs113 hs114 hs116 hr115
  refine pw_astq (j := 3) h d_X7_init_170 hs119 hs120 (px_ix_nI (j := 3) (by decide) (by decide)) ?_
  have hr122 : ((u2 (rX6 (nR0 (u2 (rX6 (nR0 (u2 (rX6 (nR0 (u2 (rX6 (nR0 (u2 (rX1 (nR0 (u2 (rX1 (nR0 (u2 (rX3 (nR0 (u2 (rX5 (nR0 (u2 (rX0 (nR0 (u2 (rX0 (nR0 (u2 (nR0 (u2 (rX4 (nR0 (u2 (nR0 (u2 (nR5 (u2 (rX2 (nR0 R 1) 1 2) 0 0 (some 1)) 7) 0 1 (some 7)) 12) 0 2 (some 12)) 13) 13 14) 0 4 (some 13)) 20) 0 5 (some 20)) 21) 21 22) 0 6 (some 21)) 33) 33 34) 0 7 (some 33)) 45) 45 46) 0 8 (some 45)) 61) 61 62) 0 13 (some 61)) 71) 71 72) 0 15 (some 71)) 72) 72 73) 0 16 (some 72)) 73) 73 74) 20 0 (some 73)) 75) 75 76) 20 1 (some 75)) 77) 77 78) 20 2 (some 77)) 79) 79 80) 20 3 (some 79))) 0 5 = some 20 := by rw [u2_n1 (by decide)]; exact hr121
  clear hr121
  refine pw_iinc (lv' := [(1, .int 4), (0, .ref 0)]) 4 h d_X7_init_171 0 rfl (by decide) _ hml (by decide) rfl ?_
  refine pw_goto 153 h d_X7_init_174 (by decide) ?_
  refine pw_iload_n h 0 d_X7_init_153 rfl ?_
  refine pw_iconst (x := 4) h d_X7_init_154 (by decide) ?_
  refine pw_icmp_ge 177 h d_X7_init_155 (by decide) (fun c_ => ?_) (fun c_ => absurd (by decide) c_)
  refine pw_vret h hr d_X7_init_177 (by decide) (by decide) ?_
  exact ⟨rfl, rfl, rfl, rfl, rfl⟩
