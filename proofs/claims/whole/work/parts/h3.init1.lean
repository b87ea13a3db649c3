def shX0 (sh : Sh) : Sh := (((((((((((sh ++ [kI 7]) ++ [kI 7]) ++ [kL 7]) ++ [kL 13]) ++ [kL 13]) ++ [kL 7]) ++ [kL 7]) ++ [kL 7]) ++ [kL 7]) ++ [kL 7]) ++ [kL 7])
def iX0 (I : IM) (b n : Nat) : IM := (nI0 (nI0 (nI0 (nI0 (nI0 (nI0 (nI0 (nI0 (nI0 (nI0 (nI0 (u2 I b 0 0) n) (n + 1)) (n + 2)) (n + 3)) (n + 4)) (n + 5)) (n + 6)) (n + 7)) (n + 8)) (n + 9)) (n + 10))
def lX0 (L : LM) (b n : Nat) : LM := (nL0 (nL0 (nL0 (nL0 (nL0 (nL0 (nL0 (nL0 (u2 (u2 (u2 (u2 (u2 (nL0 (nL0 (nL0 L n) (n + 1)) (n + 2)) b 4 1) b 5 1) b 6 1) b 7 0) b 8 0) (n + 3)) (n + 4)) (n + 5)) (n + 6)) (n + 7)) (n + 8)) (n + 9)) (n + 10))
def rX0 (R : RM) (b n : Nat) : RM := (u2 (nR0 (u2 (nR0 (u2 (nR0 (u2 (nR0 (u2 (nR0 (u2 (nR0 (u2 (nR0 (u2 (nR0 (u2 (nR0 (u2 (nR0 (u2 (nR0 R n) b 1 (some n)) (n + 1)) b 2 (some (n + 1))) (n + 2)) b 3 (some (n + 2))) (n + 3)) b 9 (some (n + 3))) (n + 4)) b 10 (some (n + 4))) (n + 5)) b 11 (some (n + 5))) (n + 6)) b 12 (some (n + 6))) (n + 7)) b 13 (some (n + 7))) (n + 8)) b 14 (some (n + 8))) (n + 9)) b 15 (some (n + 9))) (n + 10)) b 16 (some (n + 10)))
theorem shX0_get {sh : Sh} {a : Nat} {k : Kd} (h : sh[a]? = some k) : (shX0 sh)[a]? = some k := by
  unfold shX0
  exact (get_app (get_app (get_app (get_app (get_app (get_app (get_app (get_app (get_app (get_app (get_app h)))))))))))
theorem shX0_len {sh : Sh} {n : Nat} (h : sh.length = n) : (shX0 sh).length = n + 11 := (len_app (len_app (len_app (len_app (len_app (len_app (len_app (len_app (len_app (len_app (len_app h)))))))))))
theorem iX0_o {I : IM} {b n a : Nat} (h1 : a ≠ b) (h2 : a < n) : iX0 I b n a = I a := by
  unfold iX0
  rw [nI0_o (by omega), nI0_o (by omega), nI0_o (by omega), nI0_o (by omega), nI0_o (by omega), nI0_o (by omega), nI0_o (by omega), nI0_o (by omega), nI0_o (by omega), nI0_o (by omega), nI0_o (by omega), u2_o (by omega)]
theorem lX0_o {L : LM} {b n a : Nat} (h1 : a ≠ b) (h2 : a < n) : lX0 L b n a = L a := by
  unfold lX0
  rw [nL0_o (by omega), nL0_o (by omega), nL0_o (by omega), nL0_o (by omega), nL0_o (by omega), nL0_o (by omega), nL0_o (by omega), nL0_o (by omega), u2_o (by omega), u2_o (by omega), u2_o (by omega), u2_o (by omega), u2_o (by omega), nL0_o (by omega), nL0_o (by omega), nL0_o (by omega)]
theorem rX0_o {R : RM} {b n a : Nat} (h1 : a ≠ b) (h2 : a < n) : rX0 R b n a = R a := by
  unfold rX0
  rw [u2_o (by omega), nR0_o (by omega), u2_o (by omega), nR0_o (by omega), u2_o (by omega), nR0_o (by omega), u2_o (by omega), nR0_o (by omega), u2_o (by omega), nR0_o (by omega), u2_o (by omega), nR0_o (by omega), u2_o (by omega), nR0_o (by omega), u2_o (by omega), nR0_o (by omega), u2_o (by omega), nR0_o (by omega), u2_o (by omega), nR0_o (by omega), u2_o (by omega), nR0_o (by omega)]
set_option maxHeartbeats 4000000 in
set_option maxRecDepth 100000 in
theorem c_X0_init {sh : Sh} {I : IM} {L : LM} {R : RM} {b n : Nat} (hb : sh[b]? = some (kO 0)) (hn : sh.length = n) (hmx : n + 11 ≤ 900) : PMet M_X0_init [.ref b] sh I L R (pRet none (shX0 sh) (iX0 I b n) (lX0 L b n) (rX0 R b n)) := by
  refine PMet.of mf_X0_init (Nat.le_of_ble_eq_true rfl) ?_
  intro X h hr hml
  have hml : (xc X).maxLocals = 1 := hml
  have h : PXok X RX0 cX0_init 1 11 89 := h
  have hr : PXr X none "<init>" _ 11 89 := hr
  have hin := hr.2.2.2
  have hbn : b < n := by rw [← hn]; exact (List.getElem?_eq_some_iff.mp hb).1
  show PW X 0 [(0, .ref b)] [] sh I L R 0 0
  refine pw_aload_n h 0 d_X0_init_0 rfl ?_
  refine pw_obj h d_X0_init_1 ml_RX0_3 (by decide) (Nat.le_of_ble_eq_true rfl) ?_
  refine pw_aload_n h 0 d_X0_init_4 rfl ?_
  refine pw_iconst (x := 0) h d_X0_init_5 (by decide) ?_
  refine pw_putI 0 h d_X0_init_6 fd_RX0_9 hb rfl rfl (by decide) (by decide) ?_
  refine pw_aload_n h 0 d_X0_init_9 rfl ?_
  refine pw_bipush (x := 7) h d_X0_init_10 (by decide) ?_
  refine pw_newI (N := 7) h d_X0_init_12 (by decide) rfl (by decide) hn (ltA0 hmx) (rok_r hbn rok_nil) (rokl_r hbn rokl_nil) (by decide) (by decide) ?_
  have hn1 : ((sh ++ [kI 7])).length = (n + 1) := len_app hn
  have hs2 : ((sh ++ [kI 7]))[b]? = some (kO 0) := get_app hb
  refine pw_putF 0 h hin d_X0_init_14 fd_RX0_15 hs2 rfl rfl rfl (fun _ => rfl) (fun _ => rfl) (by rw [hn1]; exact (ltN (by decide))) ?_
  refine pw_aload_n h 0 d_X0_init_17 rfl ?_
  refine pw_bipush (x := 7) h d_X0_init_18 (by decide) ?_
  refine pw_newI (N := 7) h d_X0_init_20 (by decide) rfl (by decide) hn1 (ltA hmx (by decide)) (rok_r (ltB hbn) rok_nil) (rokl_r (ltB hbn) rokl_nil) (by decide) (by decide) ?_
  have hn3 : (((sh ++ [kI 7]) ++ [kI 7])).length = (n + 2) := len_app hn1
  have hs4 : (((sh ++ [kI 7]) ++ [kI 7]))[b]? = some (kO 0) := get_app hs2
  clear hn1 hs2
  refine pw_putF 0 h hin d_X0_init_22 fd_RX0_19 hs4 rfl rfl rfl (fun _ => rfl) (fun _ => rfl) (by rw [hn3]; exact (Nat.add_lt_add_left (by decide) n)) ?_
  refine pw_aload_n h 0 d_X0_init_25 rfl ?_
  refine pw_bipush (x := 7) h d_X0_init_26 (by decide) ?_
  refine pw_newL (N := 7) h d_X0_init_28 (by decide) rfl (by decide) hn3 (ltA hmx (by decide)) (rok_r (ltB hbn) rok_nil) (rokl_r (ltB hbn) rokl_nil) (by decide) (by decide) ?_
  have hn5 : ((((sh ++ [kI 7]) ++ [kI 7]) ++ [kL 7])).length = (n + 3) := len_app hn3
  have hs6 : ((((sh ++ [kI 7]) ++ [kI 7]) ++ [kL 7]))[b]? = some (kO 0) := get_app hs4
  clear hn3 hs4
  refine pw_putF 0 h hin d_X0_init_30 fd_RX0_22 hs6 rfl rfl rfl (fun _ => rfl) (fun _ => rfl) (by rw [hn5]; exact (Nat.add_lt_add_left (by decide) n)) ?_
  refine pw_aload_n h 0 d_X0_init_33 rfl ?_
  refine pw_lconst (x := 1) h d_X0_init_34 (by decide) ?_
  refine pw_putL 0 h d_X0_init_35 fd_RX0_26 hs6 rfl rfl rfl rfl ?_
  refine pw_aload_n h 0 d_X0_init_38 rfl ?_
  refine pw_lconst (x := 1) h d_X0_init_39 (by decide) ?_
  refine pw_putL 0 h d_X0_init_40 fd_RX0_30 hs6 rfl rfl rfl rfl ?_
  refine pw_aload_n h 0 d_X0_init_43 rfl ?_
  refine pw_lconst (x := 1) h d_X0_init_44 (by decide) ?_
  refine pw_putL 0 h d_X0_init_45 fd_RX0_33 hs6 rfl rfl rfl rfl ?_
  refine pw_aload_n h 0 d_X0_init_48 rfl ?_
  refine pw_lconst (x := 0) h d_X0_init_49 (by decide) ?_
  refine pw_putL 0 h d_X0_init_50 fd_RX0_36 hs6 rfl rfl rfl rfl ?_
  refine pw_aload_n h 0 d_X0_init_53 rfl ?_
  refine pw_lconst (x := 0) h d_X0_init_54 (by decide) ?_
  refine pw_putL 0 h d_X0_init_55 fd_RX0_39 hs6 rfl rfl rfl rfl ?_
  refine pw_aload_n h 0 d_X0_init_58 rfl ?_
  refine pw_bipush (x := 13) h d_X0_init_59 (by decide) ?_
  refine pw_newL (N := 13) h d_X0_init_61 (by decide) rfl (by decide) hn5 (ltA hmx (by decide)) (rok_r (ltB hbn) rok_nil) (rokl_r (ltB hbn) rokl_nil) (by decide) (by decide) ?_
  have hn7 : (((((sh ++ [kI 7]) ++ [kI 7]) ++ [kL 7]) ++ [kL 13])).length = (n + 4) := len_app hn5
  have hs8 : (((((sh ++ [kI 7]) ++ [kI 7]) ++ [kL 7]) ++ [kL 13]))[b]? = some (kO 0) := get_app hs6
  clear hn5 hs6
  refine pw_putF 0 h hin d_X0_init_63 fd_RX0_42 hs8 rfl rfl rfl (fun _ => rfl) (fun _ => rfl) (by rw [hn7]; exact (Nat.add_lt_add_left (by decide) n)) ?_
  refine pw_aload_n h 0 d_X0_init_66 rfl ?_
  refine pw_bipush (x := 13) h d_X0_init_67 (by decide) ?_
  refine pw_newL (N := 13) h d_X0_init_69 (by decide) rfl (by decide) hn7 (ltA hmx (by decide)) (rok_r (ltB hbn) rok_nil) (rokl_r (ltB hbn) rokl_nil) (by decide) (by decide) ?_
  have hn9 : ((((((sh ++ [kI 7]) ++ [kI 7]) ++ [kL 7]) ++ [kL 13]) ++ [kL 13])).length = (n + 5) := len_app hn7
  have hs10 : ((((((sh ++ [kI 7]) ++ [kI 7]) ++ [kL 7]) ++ [kL 13]) ++ [kL 13]))[b]? = some (kO 0) := get_app hs8
  clear hn7 hs8
  refine pw_putF 0 h hin d_X0_init_71 fd_RX0_45 hs10 rfl rfl rfl (fun _ => rfl) (fun _ => rfl) (by rw [hn9]; exact (Nat.add_lt_add_left (by decide) n)) ?_
  refine pw_aload_n h 0 d_X0_init_74 rfl ?_
  refine pw_bipush (x := 7) h d_X0_init_75 (by decide) ?_
  refine pw_newL (N := 7) h d_X0_init_77 (by decide) rfl (by decide) hn9 (ltA hmx (by decide)) (rok_r (ltB hbn) rok_nil) (rokl_r (ltB hbn) rokl_nil) (by decide) (by decide) ?_
  have hn11 : (((((((sh ++ [kI 7]) ++ [kI 7]) ++ [kL 7]) ++ [kL 13]) ++ [kL 13]) ++ [kL 7])).length = (n + 6) := len_app hn9
  have hs12 : (((((((sh ++ [kI 7]) ++ [kI 7]) ++ [kL 7]) ++ [kL 13]) ++ [kL 13]) ++ [kL 7]))[b]? = some (kO 0) := get_app hs10
  clear hn9 hs10
  refine pw_putF 0 h hin d_X0_init_79 fd_RX0_48 hs12 rfl rfl rfl (fun _ => rfl) (fun _ => rfl) (by rw [hn11]; exact (Nat.add_lt_add_left (by decide) n)) ?_
  refine pw_aload_n h 0 d_X0_init_82 rfl ?_
  refine pw_bipush (x := 7) h d_X0_init_83 (by decide) ?_
  refine pw_newL (N := 7) h d_X0_init_85 (by decide) rfl (by decide) hn11 (ltA hmx (by decide)) (rok_r (ltB hbn) rok_nil) (rokl_r (ltB hbn) rokl_nil) (by decide) (by decide) ?_
  have hn13 : ((((((((sh ++ [kI 7]) ++ [kI 7]) ++ [kL 7]) ++ [kL 13]) ++ [kL 13]) ++ [kL 7]) ++ [kL 7])).length = (n + 7) := len_app hn11
  have hs14 : ((((((((sh ++ [kI 7]) ++ [kI 7]) ++ [kL 7]) ++ [kL 13]) ++ [kL 13]) ++ [kL 7]) ++ [kL 7]))[b]? = some (kO 0) := get_app hs12
  clear hn11 hs12
  refine pw_putF 0 h hin d_X0_init_87 fd_RX0_51 hs14 rfl rfl rfl (fun _ => rfl) (fun _ => rfl) (by rw [hn13]; exact (Nat.add_lt_add_left (by decide) n)) ?_
  refine pw_aload_n h 0 d_X0_init_90 rfl ?_
  refine pw_bipush (x := 7) h d_X0_init_91 (by decide) ?_
  refine pw_newL (N := 7) h d_X0_init_93 (by decide) rfl (by decide) hn13 (ltA hmx (by decide)) (rok_r (ltB hbn) rok_nil) (rokl_r (ltB hbn) rokl_nil) (by decide) (by decide) ?_
  have hn15 : (((((((((sh ++ [kI 7]) ++ [kI 7]) ++ [kL 7]) ++ [kL 13]) ++ [kL 13]) ++ [kL 7]) ++ [kL 7]) ++ [kL 7])).length = (n + 8) := len_app hn13
  have hs16 : (((((((((sh ++ [kI 7]) ++ [kI 7]) ++ [kL 7]) ++ [kL 13]) ++ [kL 13]) ++ [kL 7]) ++ [kL 7]) ++ [kL 7]))[b]? = some (kO 0) := get_app hs14
  clear hn13 hs14
  refine pw_putF 0 h hin d_X0_init_95 fd_RX0_54 hs16 rfl rfl rfl (fun _ => rfl) (fun _ => rfl) (by rw [hn15]; exact (Nat.add_lt_add_left (by decide) n)) ?_
  refine pw_aload_n h 0 d_X0_init_98 rfl ?_
  refine pw_bipush (x := 7) h d_X0_init_99 (by decide) ?_
  refine pw_newL (N := 7) h d_X0_init_101 (by decide) rfl (by decide) hn15 (ltA hmx (by decide)) (rok_r (ltB hbn) rok_nil) (rokl_r (ltB hbn) rokl_nil) (by decide) (by decide) ?_
  have hn17 : ((((((((((sh ++ [kI 7]) ++ [kI 7]) ++ [kL 7]) ++ [kL 13]) ++ [kL 13]) ++ [kL 7]) ++ [kL 7]) ++ [kL 7]) ++ [kL 7])).length = (n + 9) := len_app hn15
  have hs18 : ((((((((((sh ++ [kI 7]) ++ [kI 7]) ++ [kL 7]) ++ [kL 13]) ++ [kL 13]) ++ [kL 7]) ++ [kL 7]) ++ [kL 7]) ++ [kL 7]))[b]? = some (kO 0) := get_app hs16
  clear hn15 hs16
  refine pw_putF 0 h hin d_X0_init_103 fd_RX0_57 hs18 rfl rfl rfl (fun _ => rfl) (fun _ => rfl) (by rw [hn17]; exact (Nat.add_lt_add_left (by decide) n)) ?_
  refine pw_aload_n h 0 d_X0_init_106 rfl ?_
  refine pw_bipush (x := 7) h d_X0_init_107 (by decide) ?_
  refine pw_newL (N := 7) h d_X0_init_109 (by decide) rfl (by decide) hn17 (ltA hmx (by decide)) (rok_r (ltB hbn) rok_nil) (rokl_r (ltB hbn) rokl_nil) (by decide) (by decide) ?_
  have hn19 : (((((((((((sh ++ [kI 7]) ++ [kI 7]) ++ [kL 7]) ++ [kL 13]) ++ [kL 13]) ++ [kL 7]) ++ [kL 7]) ++ [kL 7]) ++ [kL 7]) ++ [kL 7])).length = (n + 10) := len_app hn17
  have hs20 : (((((((((((sh ++ [kI 7]) ++ [kI 7]) ++ [kL 7]) ++ [kL 13]) ++ [kL 13]) ++ [kL 7]) ++ [kL 7]) ++ [kL 7]) ++ [kL 7]) ++ [kL 7]))[b]? = some (kO 0) := get_app hs18
  clear hn17 hs18
  refine pw_putF 0 h hin d_X0_init_111 fd_RX0_60 hs20 rfl rfl rfl (fun _ => rfl) (fun _ => rfl) (by rw [hn19]; exact (Nat.add_lt_add_left (by decide) n)) ?_
  refine pw_aload_n h 0 d_X0_init_114 rfl ?_
  refine pw_bipush (x := 7) h d_X0_init_115 (by decide) ?_
  refine pw_newL (N := 7) h d_X0_init_117 (by decide) rfl (by decide) hn19 (ltA hmx (by decide)) (rok_r (ltB hbn) rok_nil) (rokl_r (ltB hbn) rokl_nil) (by decide) (by decide) ?_
  have hn21 : ((((((((((((sh ++ [kI 7]) ++ [kI 7]) ++ [kL 7]) ++ [kL 13]) ++ [kL 13]) ++ [kL 7]) ++ [kL 7]) ++ [kL 7]) ++ [kL 7]) ++ [kL 7]) ++ [kL 7])).length = (n + 11) := len_app hn19
  have hs22 : ((((((((((((sh ++ [kI 7]) ++ [kI 7]) ++ [kL 7]) ++ [kL 13]) ++ [kL 13]) ++ [kL 7]) ++ [kL 7]) ++ [kL 7]) ++ [kL 7]) ++ [kL 7]) ++ [kL 7]))[b]? = some (kO 0) := get_app hs20
  clear hn19 hs20
  refine pw_putF 0 h hin d_X0_init_119 fd_RX0_63 hs22 rfl rfl rfl (fun _ => rfl) (fun _ => rfl) (by rw [hn21]; exact (Nat.add_lt_add_left (by decide) n)) ?_
  refine pw_vret h hr d_X0_init_122 (by decide) (by decide) ?_
  exact ⟨rfl, rfl, rfl, rfl, rfl⟩

def shX1 (sh : Sh) : Sh := sh
def iX1 (I : IM) (b n : Nat) : IM := I
def lX1 (L : LM) (b n : Nat) : LM := (u2 (u2 L b 0 0) b 1 1)
def rX1 (R : RM) (b n : Nat) : RM := R
theorem shX1_get {sh : Sh} {a : Nat} {k : Kd} (h : sh[a]? = some k) : (shX1 sh)[a]? = some k := by
  unfold shX1
  exact h
theorem shX1_len {sh : Sh} {n : Nat} (h : sh.length = n) : (shX1 sh).length = n + 0 := h
theorem iX1_o {I : IM} {b n a : Nat} (h1 : a ≠ b) (h2 : a < n) : iX1 I b n a = I a := by
  unfold iX1
  rfl
theorem lX1_o {L : LM} {b n a : Nat} (h1 : a ≠ b) (h2 : a < n) : lX1 L b n a = L a := by
  unfold lX1
  rw [u2_o (by omega), u2_o (by omega)]
theorem rX1_o {R : RM} {b n a : Nat} (h1 : a ≠ b) (h2 : a < n) : rX1 R b n a = R a := by
  unfold rX1
  rfl
set_option maxHeartbeats 4000000 in
set_option maxRecDepth 100000 in
theorem c_X1_init {sh : Sh} {I : IM} {L : LM} {R : RM} {b n : Nat} (hb : sh[b]? = some (kO 1)) (hn : sh.length = n) (hmx : n + 0 ≤ 900) : PMet M_X1_init [.ref b] sh I L R (pRet none (shX1 sh) (iX1 I b n) (lX1 L b n) (rX1 R b n)) := by
  refine PMet.of mf_X1_init (Nat.le_of_ble_eq_true rfl) ?_
  intro X h hr hml
  have hml : (xc X).maxLocals = 1 := hml
  have h : PXok X RX1 cX1_init 1 0 0 := h
  have hr : PXr X none "<init>" _ 0 0 := hr
  have hin := hr.2.2.2
  have hbn : b < n := by rw [← hn]; exact (List.getElem?_eq_some_iff.mp hb).1
  show PW X 0 [(0, .ref b)] [] sh I L R 0 0
  refine pw_aload_n h 0 d_X1_init_0 rfl ?_
  refine pw_obj h d_X1_init_1 ml_RX1_1 (by decide) (Nat.le_of_ble_eq_true rfl) ?_
  refine pw_aload_n h 0 d_X1_init_4 rfl ?_
  refine pw_lconst (x := 0) h d_X1_init_5 (by decide) ?_
  refine pw_putL 1 h d_X1_init_6 fd_RX1_7 hb rfl rfl rfl rfl ?_
  refine pw_aload_n h 0 d_X1_init_9 rfl ?_
  refine pw_lconst (x := 1) h d_X1_init_10 (by decide) ?_
  refine pw_putL 1 h d_X1_init_11 fd_RX1_13 hb rfl rfl rfl rfl ?_
  refine pw_vret h hr d_X1_init_14 (by decide) (by decide) ?_
  exact ⟨rfl, rfl, rfl, rfl, rfl⟩

def shX2 (sh : Sh) : Sh := (((((sh ++ [kI 6]) ++ [kI 6]) ++ [kI 6]) ++ [kI 6]) ++ [kI 13])
def iX2 (I : IM) (b n : Nat) : IM := (u2 (nI0 (nI0 (nI0 (nI0 (nI0 (u2 I b 0 0) n) (n + 1)) (n + 2)) (n + 3)) (n + 4)) b 6 10)
def lX2 (L : LM) (b n : Nat) : LM := (nL0 (nL0 (nL0 (nL0 (nL0 L n) (n + 1)) (n + 2)) (n + 3)) (n + 4))
def rX2 (R : RM) (b n : Nat) : RM := (u2 (nR0 (u2 (nR0 (u2 (nR0 (u2 (nR0 (u2 (nR0 R n) b 1 (some n)) (n + 1)) b 2 (some (n + 1))) (n + 2)) b 3 (some (n + 2))) (n + 3)) b 4 (some (n + 3))) (n + 4)) b 5 (some (n + 4)))
theorem shX2_get {sh : Sh} {a : Nat} {k : Kd} (h : sh[a]? = some k) : (shX2 sh)[a]? = some k := by
  unfold shX2
  exact (get_app (get_app (get_app (get_app (get_app h)))))
theorem shX2_len {sh : Sh} {n : Nat} (h : sh.length = n) : (shX2 sh).length = n + 5 := (len_app (len_app (len_app (len_app (len_app h)))))
theorem iX2_o {I : IM} {b n a : Nat} (h1 : a ≠ b) (h2 : a < n) : iX2 I b n a = I a := by
  unfold iX2
  rw [u2_o (by omega), nI0_o (by omega), nI0_o (by omega), nI0_o (by omega), nI0_o (by omega), nI0_o (by omega), u2_o (by omega)]
theorem lX2_o {L : LM} {b n a : Nat} (h1 : a ≠ b) (h2 : a < n) : lX2 L b n a = L a := by
  unfold lX2
  rw [nL0_o (by omega), nL0_o (by omega), nL0_o (by omega), nL0_o (by omega), nL0_o (by omega)]
theorem rX2_o {R : RM} {b n a : Nat} (h1 : a ≠ b) (h2 : a < n) : rX2 R b n a = R a := by
  unfold rX2
  rw [u2_o (by omega), nR0_o (by omega), u2_o (by omega), nR0_o (by omega), u2_o (by omega), nR0_o (by omega), u2_o (by omega), nR0_o (by omega), u2_o (by omega), nR0_o (by omega)]
set_option maxHeartbeats 4000000 in
set_option maxRecDepth 100000 in
theorem c_X2_init {sh : Sh} {I : IM} {L : LM} {R : RM} {b n : Nat} (hb : sh[b]? = some (kO 2)) (hn : sh.length = n) (hmx : n + 5 ≤ 900) : PMet M_X2_init [.ref b] sh I L R (pRet none (shX2 sh) (iX2 I b n) (lX2 L b n) (rX2 R b n)) := by
  refine PMet.of mf_X2_init (Nat.le_of_ble_eq_true rfl) ?_
  intro X h hr hml
  have hml : (xc X).maxLocals = 1 := hml
  have h : PXok X RX2 cX2_init 1 5 37 := h
  have hr : PXr X none "<init>" _ 5 37 := hr
  have hin := hr.2.2.2
  have hbn : b < n := by rw [← hn]; exact (List.getElem?_eq_some_iff.mp hb).1
  show PW X 0 [(0, .ref b)] [] sh I L R 0 0
  refine pw_aload_n h 0 d_X2_init_0 rfl ?_
  refine pw_obj h d_X2_init_1 ml_RX2_3 (by decide) (Nat.le_of_ble_eq_true rfl) ?_
  refine pw_aload_n h 0 d_X2_init_4 rfl ?_
  refine pw_iconst (x := 0) h d_X2_init_5 (by decide) ?_
  refine pw_putI 2 h d_X2_init_6 fd_RX2_9 hb rfl rfl (by decide) (by decide) ?_
  refine pw_aload_n h 0 d_X2_init_9 rfl ?_
  refine pw_bipush (x := 6) h d_X2_init_10 (by decide) ?_
  refine pw_newI (N := 6) h d_X2_init_12 (by decide) rfl (by decide) hn (ltA0 hmx) (rok_r hbn rok_nil) (rokl_r hbn rokl_nil) (by decide) (by decide) ?_
  have hn1 : ((sh ++ [kI 6])).length = (n + 1) := len_app hn
  have hs2 : ((sh ++ [kI 6]))[b]? = some (kO 2) := get_app hb
  refine pw_putF 2 h hin d_X2_init_14 fd_RX2_15 hs2 rfl rfl rfl (fun _ => rfl) (fun _ => rfl) (by rw [hn1]; exact (ltN (by decide))) ?_
  refine pw_aload_n h 0 d_X2_init_17 rfl ?_
  refine pw_bipush (x := 6) h d_X2_init_18 (by decide) ?_
  refine pw_newI (N := 6) h d_X2_init_20 (by decide) rfl (by decide) hn1 (ltA hmx (by decide)) (rok_r (ltB hbn) rok_nil) (rokl_r (ltB hbn) rokl_nil) (by decide) (by decide) ?_
  have hn3 : (((sh ++ [kI 6]) ++ [kI 6])).length = (n + 2) := len_app hn1
  have hs4 : (((sh ++ [kI 6]) ++ [kI 6]))[b]? = some (kO 2) := get_app hs2
  clear hn1 hs2
  refine pw_putF 2 h hin d_X2_init_22 fd_RX2_19 hs4 rfl rfl rfl (fun _ => rfl) (fun _ => rfl) (by rw [hn3]; exact (Nat.add_lt_add_left (by decide) n)) ?_
  refine pw_aload_n h 0 d_X2_init_25 rfl ?_
  refine pw_bipush (x := 6) h d_X2_init_26 (by decide) ?_
  refine pw_newI (N := 6) h d_X2_init_28 (by decide) rfl (by decide) hn3 (ltA hmx (by decide)) (rok_r (ltB hbn) rok_nil) (rokl_r (ltB hbn) rokl_nil) (by decide) (by decide) ?_
  have hn5 : ((((sh ++ [kI 6]) ++ [kI 6]) ++ [kI 6])).length = (n + 3) := len_app hn3
  have hs6 : ((((sh ++ [kI 6]) ++ [kI 6]) ++ [kI 6]))[b]? = some (kO 2) := get_app hs4
  clear hn3 hs4
  refine pw_putF 2 h hin d_X2_init_30 fd_RX2_22 hs6 rfl rfl rfl (fun _ => rfl) (fun _ => rfl) (by rw [hn5]; exact (Nat.add_lt_add_left (by decide) n)) ?_
  refine pw_aload_n h 0 d_X2_init_33 rfl ?_
  refine pw_bipush (x := 6) h d_X2_init_34 (by decide) ?_
  refine pw_newI (N := 6) h d_X2_init_36 (by decide) rfl (by decide) hn5 (ltA hmx (by decide)) (rok_r (ltB hbn) rok_nil) (rokl_r (ltB hbn) rokl_nil) (by decide) (by decide) ?_
  have hn7 : (((((sh ++ [kI 6]) ++ [kI 6]) ++ [kI 6]) ++ [kI 6])).length = (n + 4) := len_app hn5
  have hs8 : (((((sh ++ [kI 6]) ++ [kI 6]) ++ [kI 6]) ++ [kI 6]))[b]? = some (kO 2) := get_app hs6
  clear hn5 hs6
  refine pw_putF 2 h hin d_X2_init_38 fd_RX2_25 hs8 rfl rfl rfl (fun _ => rfl) (fun _ => rfl) (by rw [hn7]; exact (Nat.add_lt_add_left (by decide) n)) ?_
  refine pw_aload_n h 0 d_X2_init_41 rfl ?_
  refine pw_bipush (x := 13) h d_X2_init_42 (by decide) ?_
  refine pw_newI (N := 13) h d_X2_init_44 (by decide) rfl (by decide) hn7 (ltA hmx (by decide)) (rok_r (ltB hbn) rok_nil) (rokl_r (ltB hbn) rokl_nil) (by decide) (by decide) ?_
  have hn9 : ((((((sh ++ [kI 6]) ++ [kI 6]) ++ [kI 6]) ++ [kI 6]) ++ [kI 13])).length = (n + 5) := len_app hn7
  have hs10 : ((((((sh ++ [kI 6]) ++ [kI 6]) ++ [kI 6]) ++ [kI 6]) ++ [kI 13]))[b]? = some (kO 2) := get_app hs8
  clear hn7 hs8
  refine pw_putF 2 h hin d_X2_init_46 fd_RX2_28 hs10 rfl rfl rfl (fun _ => rfl) (fun _ => rfl) (by rw [hn9]; exact (Nat.add_lt_add_left (by decide) n)) ?_
  refine pw_aload_n h 0 d_X2_init_49 rfl ?_
  refine pw_bipush (x := 10) h d_X2_init_50 (by decide) ?_
  refine pw_putI 2 h d_X2_init_52 fd_RX2_31 hs10 rfl rfl (by decide) (by decide) ?_
  refine pw_vret h hr d_X2_init_55 (by decide) (by decide) ?_
  exact ⟨rfl, rfl, rfl, rfl, rfl⟩

def shX3 (sh : Sh) : Sh := (((((((((sh ++ [kI 4]) ++ [kI 11]) ++ [kI 11]) ++ [kL 11]) ++ [kL 176]) ++ [kL 176]) ++ [kL 4]) ++ [kI 4]) ++ [kI 13])
def iX3 (I : IM) (b n : Nat) : IM := (nI0 (nI0 (nI0 (nI0 (nI0 (nI0 (nI0 (nI0 (u2 (u2 (nI0 (u2 I b 0 (-4)) n) b 5 0) b 6 0) (n + 1)) (n + 2)) (n + 3)) (n + 4)) (n + 5)) (n + 6)) (n + 7)) (n + 8))
def lX3 (L : LM) (b n : Nat) : LM := (nL0 (nL0 (nL0 (nL0 (nL0 (nL0 (nL0 (nL0 (u2 (u2 (nL0 L n) b 3 0) b 4 0) (n + 1)) (n + 2)) (n + 3)) (n + 4)) (n + 5)) (n + 6)) (n + 7)) (n + 8))
def rX3 (R : RM) (b n : Nat) : RM := (u2 (nR0 (u2 (nR0 (u2 (nR0 (u2 (nR0 (u2 (nR0 (u2 (nR0 (u2 (nR0 (u2 (nR0 (u2 (u2 (nR0 R n) b 1 (some n)) b 2 none) (n + 1)) b 7 (some (n + 1))) (n + 2)) b 8 (some (n + 2))) (n + 3)) b 9 (some (n + 3))) (n + 4)) b 10 (some (n + 4))) (n + 5)) b 11 (some (n + 5))) (n + 6)) b 12 (some (n + 6))) (n + 7)) b 13 (some (n + 7))) (n + 8)) b 14 (some (n + 8)))
theorem shX3_get {sh : Sh} {a : Nat} {k : Kd} (h : sh[a]? = some k) : (shX3 sh)[a]? = some k := by
  unfold shX3
  exact (get_app (get_app (get_app (get_app (get_app (get_app (get_app (get_app (get_app h)))))))))
theorem shX3_len {sh : Sh} {n : Nat} (h : sh.length = n) : (shX3 sh).length = n + 9 := (len_app (len_app (len_app (len_app (len_app (len_app (len_app (len_app (len_app h)))))))))
theorem iX3_o {I : IM} {b n a : Nat} (h1 : a ≠ b) (h2 : a < n) : iX3 I b n a = I a := by
  unfold iX3
  rw [nI0_o (by omega), nI0_o (by omega), nI0_o (by omega), nI0_o (by omega), nI0_o (by omega), nI0_o (by omega), nI0_o (by omega), nI0_o (by omega), u2_o (by omega), u2_o (by omega), nI0_o (by omega), u2_o (by omega)]
theorem lX3_o {L : LM} {b n a : Nat} (h1 : a ≠ b) (h2 : a < n) : lX3 L b n a = L a := by
  unfold lX3
  rw [nL0_o (by omega), nL0_o (by omega), nL0_o (by omega), nL0_o (by omega), nL0_o (by omega), nL0_o (by omega), nL0_o (by omega), nL0_o (by omega), u2_o (by omega), u2_o (by omega), nL0_o (by omega)]
theorem rX3_o {R : RM} {b n a : Nat} (h1 : a ≠ b) (h2 : a < n) : rX3 R b n a = R a := by
  unfold rX3
  rw [u2_o (by omega), nR0_o (by omega), u2_o (by omega), nR0_o (by omega), u2_o (by omega), nR0_o (by omega), u2_o (by omega), nR0_o (by omega), u2_o (by omega), nR0_o (by omega), u2_o (by omega), nR0_o (by omega), u2_o (by omega), nR0_o (by omega), u2_o (by omega), nR0_o (by omega), u2_o (by omega), u2_o (by omega), nR0_o (by omega)]
set_option maxHeartbeats 4000000 in
set_option maxRecDepth 100000 in
theorem c_X3_init {sh : Sh} {I : IM} {L : LM} {R : RM} {b n : Nat} (hb : sh[b]? = some (kO 3)) (hn : sh.length = n) (hmx : n + 9 ≤ 900) : PMet M_X3_init [.ref b] sh I L R (pRet none (shX3 sh) (iX3 I b n) (lX3 L b n) (rX3 R b n)) := by
  refine PMet.of mf_X3_init (Nat.le_of_ble_eq_true rfl) ?_
  intro X h hr hml
  have hml : (xc X).maxLocals = 1 := hml
  have h : PXok X RX3 cX3_init 1 9 410 := h
  have hr : PXr X none "<init>" _ 9 410 := hr
  have hin := hr.2.2.2
  have hbn : b < n := by rw [← hn]; exact (List.getElem?_eq_some_iff.mp hb).1
  show PW X 0 [(0, .ref b)] [] sh I L R 0 0
  refine pw_aload_n h 0 d_X3_init_0 rfl ?_
  refine pw_obj h d_X3_init_1 ml_RX3_3 (by decide) (Nat.le_of_ble_eq_true rfl) ?_
  refine pw_aload_n h 0 d_X3_init_4 rfl ?_
  refine pw_bipush (x := (-4)) h d_X3_init_5 (by decide) ?_
  refine pw_putI 3 h d_X3_init_7 fd_RX3_9 hb rfl rfl (by decide) (by decide) ?_
  refine pw_aload_n h 0 d_X3_init_10 rfl ?_
  refine pw_iconst (x := 4) h d_X3_init_11 (by decide) ?_
  refine pw_newI (N := 4) h d_X3_init_12 (by decide) rfl (by decide) hn (ltA0 hmx) (rok_r hbn rok_nil) (rokl_r hbn rokl_nil) (by decide) (by decide) ?_
  have hn1 : ((sh ++ [kI 4])).length = (n + 1) := len_app hn
  have hs2 : ((sh ++ [kI 4]))[b]? = some (kO 3) := get_app hb
  refine pw_putF 3 h hin d_X3_init_14 fd_RX3_15 hs2 rfl rfl rfl (fun _ => rfl) (fun _ => rfl) (by rw [hn1]; exact (ltN (by decide))) ?_
  refine pw_aload_n h 0 d_X3_init_17 rfl ?_
  refine pw_null h d_X3_init_18 ?_
  refine pw_putN 3 h d_X3_init_19 fd_RX3_19 hs2 rfl rfl rfl rfl ?_
  refine pw_aload_n h 0 d_X3_init_22 rfl ?_
  refine pw_lconst (x := 0) h d_X3_init_23 (by decide) ?_
  refine pw_putL 3 h d_X3_init_24 fd_RX3_23 hs2 rfl rfl rfl rfl ?_
  refine pw_aload_n h 0 d_X3_init_27 rfl ?_
  refine pw_lconst (x := 0) h d_X3_init_28 (by decide) ?_
  refine pw_putL 3 h d_X3_init_29 fd_RX3_27 hs2 rfl rfl rfl rfl ?_
  refine pw_aload_n h 0 d_X3_init_32 rfl ?_
  refine pw_iconst (x := 0) h d_X3_init_33 (by decide) ?_
  refine pw_putI 3 h d_X3_init_34 fd_RX3_30 hs2 rfl rfl (by decide) (by decide) ?_
  refine pw_aload_n h 0 d_X3_init_37 rfl ?_
  refine pw_iconst (x := 0) h d_X3_init_38 (by decide) ?_
  refine pw_putI 3 h d_X3_init_39 fd_RX3_33 hs2 rfl rfl (by decide) (by decide) ?_
  refine pw_aload_n h 0 d_X3_init_42 rfl ?_
  refine pw_bipush (x := 11) h d_X3_init_43 (by decide) ?_
  refine pw_newI (N := 11) h d_X3_init_45 (by decide) rfl (by decide) hn1 (ltA hmx (by decide)) (rok_r (ltB hbn) rok_nil) (rokl_r (ltB hbn) rokl_nil) (by decide) (by decide) ?_
  have hn3 : (((sh ++ [kI 4]) ++ [kI 11])).length = (n + 2) := len_app hn1
  have hs4 : (((sh ++ [kI 4]) ++ [kI 11]))[b]? = some (kO 3) := get_app hs2
  clear hn1 hs2
  refine pw_putF 3 h hin d_X3_init_47 fd_RX3_36 hs4 rfl rfl rfl (fun _ => rfl) (fun _ => rfl) (by rw [hn3]; exact (Nat.add_lt_add_left (by decide) n)) ?_
  refine pw_aload_n h 0 d_X3_init_50 rfl ?_
  refine pw_bipush (x := 11) h d_X3_init_51 (by decide) ?_
  refine pw_newI (N := 11) h d_X3_init_53 (by decide) rfl (by decide) hn3 (ltA hmx (by decide)) (rok_r (ltB hbn) rok_nil) (rokl_r (ltB hbn) rokl_nil) (by decide) (by decide) ?_
  have hn5 : ((((sh ++ [kI 4]) ++ [kI 11]) ++ [kI 11])).length = (n + 3) := len_app hn3
  have hs6 : ((((sh ++ [kI 4]) ++ [kI 11]) ++ [kI 11]))[b]? = some (kO 3) := get_app hs4
  clear hn3 hs4
  refine pw_putF 3 h hin d_X3_init_55 fd_RX3_39 hs6 rfl rfl rfl (fun _ => rfl) (fun _ => rfl) (by rw [hn5]; exact (Nat.add_lt_add_left (by decide) n)) ?_
  refine pw_aload_n h 0 d_X3_init_58 rfl ?_
  refine pw_bipush (x := 11) h d_X3_init_59 (by decide) ?_
  refine pw_newL (N := 11) h d_X3_init_61 (by decide) rfl (by decide) hn5 (ltA hmx (by decide)) (rok_r (ltB hbn) rok_nil) (rokl_r (ltB hbn) rokl_nil) (by decide) (by decide) ?_
  have hn7 : (((((sh ++ [kI 4]) ++ [kI 11]) ++ [kI 11]) ++ [kL 11])).length = (n + 4) := len_app hn5
  have hs8 : (((((sh ++ [kI 4]) ++ [kI 11]) ++ [kI 11]) ++ [kL 11]))[b]? = some (kO 3) := get_app hs6
  clear hn5 hs6
  refine pw_putF 3 h hin d_X3_init_63 fd_RX3_42 hs8 rfl rfl rfl (fun _ => rfl) (fun _ => rfl) (by rw [hn7]; exact (Nat.add_lt_add_left (by decide) n)) ?_
  refine pw_aload_n h 0 d_X3_init_66 rfl ?_
  refine pw_sipush (x := 176) h d_X3_init_67 (by decide) ?_
  refine pw_newL (N := 176) h d_X3_init_70 (by decide) rfl (by decide) hn7 (ltA hmx (by decide)) (rok_r (ltB hbn) rok_nil) (rokl_r (ltB hbn) rokl_nil) (by decide) (by decide) ?_
  have hn9 : ((((((sh ++ [kI 4]) ++ [kI 11]) ++ [kI 11]) ++ [kL 11]) ++ [kL 176])).length = (n + 5) := len_app hn7
  have hs10 : ((((((sh ++ [kI 4]) ++ [kI 11]) ++ [kI 11]) ++ [kL 11]) ++ [kL 176]))[b]? = some (kO 3) := get_app hs8
  clear hn7 hs8
  refine pw_putF 3 h hin d_X3_init_72 fd_RX3_46 hs10 rfl rfl rfl (fun _ => rfl) (fun _ => rfl) (by rw [hn9]; exact (Nat.add_lt_add_left (by decide) n)) ?_
  refine pw_aload_n h 0 d_X3_init_75 rfl ?_
  refine pw_sipush (x := 176) h d_X3_init_76 (by decide) ?_
  refine pw_newL (N := 176) h d_X3_init_79 (by decide) rfl (by decide) hn9 (ltA hmx (by decide)) (rok_r (ltB hbn) rok_nil) (rokl_r (ltB hbn) rokl_nil) (by decide) (by decide) ?_
  have hn11 : (((((((sh ++ [kI 4]) ++ [kI 11]) ++ [kI 11]) ++ [kL 11]) ++ [kL 176]) ++ [kL 176])).length = (n + 6) := len_app hn9
  have hs12 : (((((((sh ++ [kI 4]) ++ [kI 11]) ++ [kI 11]) ++ [kL 11]) ++ [kL 176]) ++ [kL 176]))[b]? = some (kO 3) := get_app hs10
  clear hn9 hs10
  refine pw_putF 3 h hin d_X3_init_81 fd_RX3_49 hs12 rfl rfl rfl (fun _ => rfl) (fun _ => rfl) (by rw [hn11]; exact (Nat.add_lt_add_left (by decide) n)) ?_
  refine pw_aload_n h 0 d_X3_init_84 rfl ?_
  refine pw_iconst (x := 4) h d_X3_init_85 (by decide) ?_
  refine pw_newL (N := 4) h d_X3_init_86 (by decide) rfl (by decide) hn11 (ltA hmx (by decide)) (rok_r (ltB hbn) rok_nil) (rokl_r (ltB hbn) rokl_nil) (by decide) (by decide) ?_
  have hn13 : ((((((((sh ++ [kI 4]) ++ [kI 11]) ++ [kI 11]) ++ [kL 11]) ++ [kL 176]) ++ [kL 176]) ++ [kL 4])).length = (n + 7) := len_app hn11
  have hs14 : ((((((((sh ++ [kI 4]) ++ [kI 11]) ++ [kI 11]) ++ [kL 11]) ++ [kL 176]) ++ [kL 176]) ++ [kL 4]))[b]? = some (kO 3) := get_app hs12
  clear hn11 hs12
  refine pw_putF 3 h hin d_X3_init_88 fd_RX3_52 hs14 rfl rfl rfl (fun _ => rfl) (fun _ => rfl) (by rw [hn13]; exact (Nat.add_lt_add_left (by decide) n)) ?_
  refine pw_aload_n h 0 d_X3_init_91 rfl ?_
  refine pw_iconst (x := 4) h d_X3_init_92 (by decide) ?_
  refine pw_newI (N := 4) h d_X3_init_93 (by decide) rfl (by decide) hn13 (ltA hmx (by decide)) (rok_r (ltB hbn) rok_nil) (rokl_r (ltB hbn) rokl_nil) (by decide) (by decide) ?_
  have hn15 : (((((((((sh ++ [kI 4]) ++ [kI 11]) ++ [kI 11]) ++ [kL 11]) ++ [kL 176]) ++ [kL 176]) ++ [kL 4]) ++ [kI 4])).length = (n + 8) := len_app hn13
  have hs16 : (((((((((sh ++ [kI 4]) ++ [kI 11]) ++ [kI 11]) ++ [kL 11]) ++ [kL 176]) ++ [kL 176]) ++ [kL 4]) ++ [kI 4]))[b]? = some (kO 3) := get_app hs14
  clear hn13 hs14
  refine pw_putF 3 h hin d_X3_init_95 fd_RX3_55 hs16 rfl rfl rfl (fun _ => rfl) (fun _ => rfl) (by rw [hn15]; exact (Nat.add_lt_add_left (by decide) n)) ?_
  refine pw_aload_n h 0 d_X3_init_98 rfl ?_
  refine pw_bipush (x := 13) h d_X3_init_99 (by decide) ?_
  refine pw_newI (N := 13) h d_X3_init_101 (by decide) rfl (by decide) hn15 (ltA hmx (by decide)) (rok_r (ltB hbn) rok_nil) (rokl_r (ltB hbn) rokl_nil) (by decide) (by decide) ?_
  have hn17 : ((((((((((sh ++ [kI 4]) ++ [kI 11]) ++ [kI 11]) ++ [kL 11]) ++ [kL 176]) ++ [kL 176]) ++ [kL 4]) ++ [kI 4]) ++ [kI 13])).length = (n + 9) := len_app hn15
  have hs18 : ((((((((((sh ++ [kI 4]) ++ [kI 11]) ++ [kI 11]) ++ [kL 11]) ++ [kL 176]) ++ [kL 176]) ++ [kL 4]) ++ [kI 4]) ++ [kI 13]))[b]? = some (kO 3) := get_app hs16
  clear hn15 hs16
  refine pw_putF 3 h hin d_X3_init_103 fd_RX3_58 hs18 rfl rfl rfl (fun _ => rfl) (fun _ => rfl) (by rw [hn17]; exact (Nat.add_lt_add_left (by decide) n)) ?_
  refine pw_vret h hr d_X3_init_106 (by decide) (by decide) ?_
  exact ⟨rfl, rfl, rfl, rfl, rfl⟩

def shX6 (sh : Sh) : Sh := (sh ++ [kI 13])
def iX6 (I : IM) (b n : Nat) : IM := (nI0 (u2 (u2 (u2 I b 0 0) b 1 0) b 2 0) n)
def lX6 (L : LM) (b n : Nat) : LM := (nL0 L n)
def rX6 (R : RM) (b n : Nat) : RM := (u2 (nR0 R n) b 3 (some n))
theorem shX6_get {sh : Sh} {a : Nat} {k : Kd} (h : sh[a]? = some k) : (shX6 sh)[a]? = some k := by
  unfold shX6
  exact (get_app h)
theorem shX6_len {sh : Sh} {n : Nat} (h : sh.length = n) : (shX6 sh).length = n + 1 := (len_app h)
theorem iX6_o {I : IM} {b n a : Nat} (h1 : a ≠ b) (h2 : a < n) : iX6 I b n a = I a := by
  unfold iX6
  rw [nI0_o (by omega), u2_o (by omega), u2_o (by omega), u2_o (by omega)]
theorem lX6_o {L : LM} {b n a : Nat} (h1 : a ≠ b) (h2 : a < n) : lX6 L b n a = L a := by
  unfold lX6
  rw [nL0_o (by omega)]
theorem rX6_o {R : RM} {b n a : Nat} (h1 : a ≠ b) (h2 : a < n) : rX6 R b n a = R a := by
  unfold rX6
  rw [u2_o (by omega), nR0_o (by omega)]
set_option maxHeartbeats 4000000 in
set_option maxRecDepth 100000 in
theorem c_X6_init {sh : Sh} {I : IM} {L : LM} {R : RM} {b n : Nat} (hb : sh[b]? = some (kO 6)) (hn : sh.length = n) (hmx : n + 1 ≤ 900) : PMet M_X6_init [.ref b] sh I L R (pRet none (shX6 sh) (iX6 I b n) (lX6 L b n) (rX6 R b n)) := by
  refine PMet.of mf_X6_init (Nat.le_of_ble_eq_true rfl) ?_
  intro X h hr hml
  have hml : (xc X).maxLocals = 1 := hml
  have h : PXok X RX6 cX6_init 1 1 13 := h
  have hr : PXr X none "<init>" _ 1 13 := hr
  have hin := hr.2.2.2
  have hbn : b < n := by rw [← hn]; exact (List.getElem?_eq_some_iff.mp hb).1
  show PW X 0 [(0, .ref b)] [] sh I L R 0 0
  refine pw_aload_n h 0 d_X6_init_0 rfl ?_
  refine pw_obj h d_X6_init_1 ml_RX6_3 (by decide) (Nat.le_of_ble_eq_true rfl) ?_
  refine pw_aload_n h 0 d_X6_init_4 rfl ?_
  refine pw_iconst (x := 0) h d_X6_init_5 (by decide) ?_
  refine pw_putI 6 h d_X6_init_6 fd_RX6_9 hb rfl rfl (by decide) (by decide) ?_
  refine pw_aload_n h 0 d_X6_init_9 rfl ?_
  refine pw_iconst (x := 0) h d_X6_init_10 (by decide) ?_
  refine pw_putI 6 h d_X6_init_11 fd_RX6_15 hb rfl rfl (by decide) (by decide) ?_
  refine pw_aload_n h 0 d_X6_init_14 rfl ?_
  refine pw_iconst (x := 0) h d_X6_init_15 (by decide) ?_
  refine pw_putI 6 h d_X6_init_16 fd_RX6_19 hb rfl rfl (by decide) (by decide) ?_
  refine pw_aload_n h 0 d_X6_init_19 rfl ?_
  refine pw_bipush (x := 13) h d_X6_init_20 (by decide) ?_
  refine pw_newI (N := 13) h d_X6_init_22 (by decide) rfl (by decide) hn (ltA0 hmx) (rok_r hbn rok_nil) (rokl_r hbn rokl_nil) (by decide) (by decide) ?_
  have hn1 : ((sh ++ [kI 13])).length = (n + 1) := len_app hn
  have hs2 : ((sh ++ [kI 13]))[b]? = some (kO 6) := get_app hb
  refine pw_putF 6 h hin d_X6_init_24 fd_RX6_22 hs2 rfl rfl rfl (fun _ => rfl) (fun _ => rfl) (by rw [hn1]; exact (ltN (by decide))) ?_
  refine pw_vret h hr d_X6_init_27 (by decide) (by decide) ?_
  exact ⟨rfl, rfl, rfl, rfl, rfl⟩

def shX4 (sh : Sh) : Sh := (shX2 (sh ++ [kO 2]))
def iX4 (I : IM) (b n : Nat) : IM := (u2 (u2 (u2 (u2 (iX2 (nI0 I n) n (n + 1)) b 2 0) b 3 0) b 4 0) b 5 0)
def lX4 (L : LM) (b n : Nat) : LM := (lX2 (nL0 L n) n (n + 1))
def rX4 (R : RM) (b n : Nat) : RM := (u2 (u2 (rX2 (nR0 R n) n (n + 1)) b 0 (some n)) b 1 none)
theorem shX4_get {sh : Sh} {a : Nat} {k : Kd} (h : sh[a]? = some k) : (shX4 sh)[a]? = some k := by
  unfold shX4
  exact (shX2_get (get_app h))
theorem shX4_len {sh : Sh} {n : Nat} (h : sh.length = n) : (shX4 sh).length = n + 6 := (shX2_len (len_app h))
theorem iX4_o {I : IM} {b n a : Nat} (h1 : a ≠ b) (h2 : a < n) : iX4 I b n a = I a := by
  unfold iX4
  rw [u2_o (by omega), u2_o (by omega), u2_o (by omega), u2_o (by omega), iX2_o (by omega) (by omega), nI0_o (by omega)]
theorem lX4_o {L : LM} {b n a : Nat} (h1 : a ≠ b) (h2 : a < n) : lX4 L b n a = L a := by
  unfold lX4
  rw [lX2_o (by omega) (by omega), nL0_o (by omega)]
theorem rX4_o {R : RM} {b n a : Nat} (h1 : a ≠ b) (h2 : a < n) : rX4 R b n a = R a := by
  unfold rX4
  rw [u2_o (by omega), u2_o (by omega), rX2_o (by omega) (by omega), nR0_o (by omega)]
set_option maxHeartbeats 4000000 in
set_option maxRecDepth 100000 in
theorem c_X4_init {sh : Sh} {I : IM} {L : LM} {R : RM} {b n : Nat} (hb : sh[b]? = some (kO 4)) (hn : sh.length = n) (hmx : n + 6 ≤ 900) : PMet M_X4_init [.ref b] sh I L R (pRet none (shX4 sh) (iX4 I b n) (lX4 L b n) (rX4 R b n)) := by
  refine PMet.of mf_X4_init (Nat.le_of_ble_eq_true rfl) ?_
  intro X h hr hml
  have hml : (xc X).maxLocals = 1 := hml
  have h : PXok X RX4 cX4_init 2 6 44 := h
  have hr : PXr X none "<init>" _ 6 44 := hr
  have hin := hr.2.2.2
  have hbn : b < n := by rw [← hn]; exact (List.getElem?_eq_some_iff.mp hb).1
  show PW X 0 [(0, .ref b)] [] sh I L R 0 0
  refine pw_aload_n h 0 d_X4_init_0 rfl ?_
  refine pw_obj h d_X4_init_1 ml_RX4_3 (by decide) (Nat.le_of_ble_eq_true rfl) ?_
  refine pw_aload_n h 0 d_X4_init_4 rfl ?_
  refine pw_new (ci := 2) h d_X4_init_5 (by decide) cl_RX4_9 ins_RX2 ini_RX2 hn (ltA0 hmx) (rok_r hbn rok_nil) (rokl_r hbn rokl_nil) (by decide) (by decide) ?_
  have hn1 : ((sh ++ [kO 2])).length = (n + 1) := len_app hn
  have hs2 : ((sh ++ [kO 2]))[b]? = some (kO 4) := get_app hb
  have hs3 : ((sh ++ [kO 2]))[n]? = some (kO 2) := get_new hn
  refine pw_dupR h d_X4_init_8 ?_
  refine pw_callIN (As := []) h d_X4_init_9 mf_X2_init rfl rfl im_yX2_init nw_RX4_11 ⟨by decide, by decide, by decide⟩ rfl rfl (Nat.le_of_ble_eq_true rfl) (by rw [hn1]; exact (rok_r (ltN (by decide)) (rok_r (ltB hbn) rok_nil))) (by rw [hn1]; exact (rokl_r (ltB hbn) rokl_nil)) (c_X2_init hs3 hn1 (ltC hmx (by decide))) (PKn.ret ?_)
  have hn4 : ((shX2 (sh ++ [kO 2]))).length = (n + 6) := shX2_len hn1
  have hs5 : ((shX2 (sh ++ [kO 2])))[b]? = some (kO 4) := shX2_get hs2
  clear hs2
  refine pw_putF 4 h hin d_X4_init_12 fd_RX4_12 hs5 rfl rfl rfl (fun _ => rfl) (fun _ => rfl) (by rw [hn4]; exact (ltN (by decide))) ?_
  refine pw_aload_n h 0 d_X4_init_15 rfl ?_
  refine pw_null h d_X4_init_16 ?_
  refine pw_putN 4 h d_X4_init_17 fd_RX4_18 hs5 rfl rfl rfl rfl ?_
  refine pw_aload_n h 0 d_X4_init_20 rfl ?_
  refine pw_iconst (x := 0) h d_X4_init_21 (by decide) ?_
  refine pw_putI 4 h d_X4_init_22 fd_RX4_22 hs5 rfl rfl (by decide) (by decide) ?_
  refine pw_aload_n h 0 d_X4_init_25 rfl ?_
  refine pw_iconst (x := 0) h d_X4_init_26 (by decide) ?_
  refine pw_putI 4 h d_X4_init_27 fd_RX4_26 hs5 rfl rfl (by decide) (by decide) ?_
  refine pw_aload_n h 0 d_X4_init_30 rfl ?_
  refine pw_iconst (x := 0) h d_X4_init_31 (by decide) ?_
  refine pw_putI 4 h d_X4_init_32 fd_RX4_29 hs5 rfl rfl (by decide) (by decide) ?_
  refine pw_aload_n h 0 d_X4_init_35 rfl ?_
  refine pw_iconst (x := 0) h d_X4_init_36 (by decide) ?_
  refine pw_putI 4 h d_X4_init_37 fd_RX4_32 hs5 rfl rfl (by decide) (by decide) ?_
  refine pw_vret h hr d_X4_init_40 (by decide) (by decide) ?_
  exact ⟨rfl, rfl, rfl, rfl, rfl⟩

def shX5 (sh : Sh) : Sh := ((((shX0 (sh ++ [kO 0])) ++ [kI 7]) ++ [kI 7]) ++ [kI 7])
def iX5 (I : IM) (b n : Nat) : IM := (nI0 (nI0 (nI0 (u2 (iX0 (nI0 I n) n (n + 1)) b 1 0) (n + 12)) (n + 13)) (n + 14))
def lX5 (L : LM) (b n : Nat) : LM := (nL0 (nL0 (nL0 (lX0 (nL0 L n) n (n + 1)) (n + 12)) (n + 13)) (n + 14))
def rX5 (R : RM) (b n : Nat) : RM := (u2 (nR0 (u2 (nR0 (u2 (nR0 (u2 (rX0 (nR0 R n) n (n + 1)) b 0 (some n)) (n + 12)) b 2 (some (n + 12))) (n + 13)) b 3 (some (n + 13))) (n + 14)) b 4 (some (n + 14)))
theorem shX5_get {sh : Sh} {a : Nat} {k : Kd} (h : sh[a]? = some k) : (shX5 sh)[a]? = some k := by
  unfold shX5
  exact (get_app (get_app (get_app (shX0_get (get_app h)))))
theorem shX5_len {sh : Sh} {n : Nat} (h : sh.length = n) : (shX5 sh).length = n + 15 := (len_app (len_app (len_app (shX0_len (len_app h)))))
theorem iX5_o {I : IM} {b n a : Nat} (h1 : a ≠ b) (h2 : a < n) : iX5 I b n a = I a := by
  unfold iX5
  rw [nI0_o (by omega), nI0_o (by omega), nI0_o (by omega), u2_o (by omega), iX0_o (by omega) (by omega), nI0_o (by omega)]
theorem lX5_o {L : LM} {b n a : Nat} (h1 : a ≠ b) (h2 : a < n) : lX5 L b n a = L a := by
  unfold lX5
  rw [nL0_o (by omega), nL0_o (by omega), nL0_o (by omega), lX0_o (by omega) (by omega), nL0_o (by omega)]
theorem rX5_o {R : RM} {b n a : Nat} (h1 : a ≠ b) (h2 : a < n) : rX5 R b n a = R a := by
  unfold rX5
  rw [u2_o (by omega), nR0_o (by omega), u2_o (by omega), nR0_o (by omega), u2_o (by omega), nR0_o (by omega), u2_o (by omega), rX0_o (by omega) (by omega), nR0_o (by omega)]
set_option maxHeartbeats 4000000 in
set_option maxRecDepth 100000 in
theorem c_X5_init {sh : Sh} {I : IM} {L : LM} {R : RM} {b n : Nat} (hb : sh[b]? = some (kO 5)) (hn : sh.length = n) (hmx : n + 15 ≤ 900) : PMet M_X5_init [.ref b] sh I L R (pRet none (shX5 sh) (iX5 I b n) (lX5 L b n) (rX5 R b n)) := by
  refine PMet.of mf_X5_init (Nat.le_of_ble_eq_true rfl) ?_
  intro X h hr hml
  have hml : (xc X).maxLocals = 1 := hml
  have h : PXok X RX5 cX5_init 2 15 127 := h
  have hr : PXr X none "<init>" _ 15 127 := hr
  have hin := hr.2.2.2
  have hbn : b < n := by rw [← hn]; exact (List.getElem?_eq_some_iff.mp hb).1
  show PW X 0 [(0, .ref b)] [] sh I L R 0 0
  refine pw_aload_n h 0 d_X5_init_0 rfl ?_
  refine pw_obj h d_X5_init_1 ml_RX5_3 (by decide) (Nat.le_of_ble_eq_true rfl) ?_
  refine pw_aload_n h 0 d_X5_init_4 rfl ?_
  refine pw_new (ci := 0) h d_X5_init_5 (by decide) cl_RX5_9 ins_RX0 ini_RX0 hn (ltA0 hmx) (rok_r hbn rok_nil) (rokl_r hbn rokl_nil) (by decide) (by decide) ?_
  have hn1 : ((sh ++ [kO 0])).length = (n + 1) := len_app hn
  have hs2 : ((sh ++ [kO 0]))[b]? = some (kO 5) := get_app hb
  have hs3 : ((sh ++ [kO 0]))[n]? = some (kO 0) := get_new hn
  refine pw_dupR h d_X5_init_8 ?_
  refine pw_callIN (As := []) h d_X5_init_9 mf_X0_init rfl rfl im_yX0_init nw_RX5_11 ⟨by decide, by decide, by decide⟩ rfl rfl (Nat.le_of_ble_eq_true rfl) (by rw [hn1]; exact (rok_r (ltN (by decide)) (rok_r (ltB hbn) rok_nil))) (by rw [hn1]; exact (rokl_r (ltB hbn) rokl_nil)) (c_X0_init hs3 hn1 (ltC hmx (by decide))) (PKn.ret ?_)
  have hn4 : ((shX0 (sh ++ [kO 0]))).length = (n + 12) := shX0_len hn1
  have hs5 : ((shX0 (sh ++ [kO 0])))[b]? = some (kO 5) := shX0_get hs2
  clear hs2
  refine pw_putF 5 h hin d_X5_init_12 fd_RX5_12 hs5 rfl rfl rfl (fun _ => rfl) (fun _ => rfl) (by rw [hn4]; exact (ltN (by decide))) ?_
  refine pw_aload_n h 0 d_X5_init_15 rfl ?_
  refine pw_iconst (x := 0) h d_X5_init_16 (by decide) ?_
  refine pw_putI 5 h d_X5_init_17 fd_RX5_18 hs5 rfl rfl (by decide) (by decide) ?_
  refine pw_aload_n h 0 d_X5_init_20 rfl ?_
  refine pw_bipush (x := 7) h d_X5_init_21 (by decide) ?_
  refine pw_newI (N := 7) h d_X5_init_23 (by decide) rfl (by decide) hn4 (ltA hmx (by decide)) (rok_r (ltB hbn) rok_nil) (rokl_r (ltB hbn) rokl_nil) (by decide) (by decide) ?_
  have hn6 : (((shX0 (sh ++ [kO 0])) ++ [kI 7])).length = (n + 13) := len_app hn4
  have hs7 : (((shX0 (sh ++ [kO 0])) ++ [kI 7]))[b]? = some (kO 5) := get_app hs5
  clear hn4 hs5
  refine pw_putF 5 h hin d_X5_init_25 fd_RX5_22 hs7 rfl rfl rfl (fun _ => rfl) (fun _ => rfl) (by rw [hn6]; exact (Nat.add_lt_add_left (by decide) n)) ?_
  refine pw_aload_n h 0 d_X5_init_28 rfl ?_
  refine pw_bipush (x := 7) h d_X5_init_29 (by decide) ?_
  refine pw_newI (N := 7) h d_X5_init_31 (by decide) rfl (by decide) hn6 (ltA hmx (by decide)) (rok_r (ltB hbn) rok_nil) (rokl_r (ltB hbn) rokl_nil) (by decide) (by decide) ?_
  have hn8 : ((((shX0 (sh ++ [kO 0])) ++ [kI 7]) ++ [kI 7])).length = (n + 14) := len_app hn6
  have hs9 : ((((shX0 (sh ++ [kO 0])) ++ [kI 7]) ++ [kI 7]))[b]? = some (kO 5) := get_app hs7
  clear hn6 hs7
  refine pw_putF 5 h hin d_X5_init_33 fd_RX5_26 hs9 rfl rfl rfl (fun _ => rfl) (fun _ => rfl) (by rw [hn8]; exact (Nat.add_lt_add_left (by decide) n)) ?_
  refine pw_aload_n h 0 d_X5_init_36 rfl ?_
  refine pw_bipush (x := 7) h d_X5_init_37 (by decide) ?_
  refine pw_newI (N := 7) h d_X5_init_39 (by decide) rfl (by decide) hn8 (ltA hmx (by decide)) (rok_r (ltB hbn) rok_nil) (rokl_r (ltB hbn) rokl_nil) (by decide) (by decide) ?_
  have hn10 : (((((shX0 (sh ++ [kO 0])) ++ [kI 7]) ++ [kI 7]) ++ [kI 7])).length = (n + 15) := len_app hn8
  have hs11 : (((((shX0 (sh ++ [kO 0])) ++ [kI 7]) ++ [kI 7]) ++ [kI 7]))[b]? = some (kO 5) := get_app hs9
  clear hn8 hs9
  refine pw_putF 5 h hin d_X5_init_41 fd_RX5_29 hs11 rfl rfl rfl (fun _ => rfl) (fun _ => rfl) (by rw [hn10]; exact (Nat.add_lt_add_left (by decide) n)) ?_
  refine pw_vret h hr d_X5_init_44 (by decide) (by decide) ?_
  exact ⟨rfl, rfl, rfl, rfl, rfl⟩

def shX8 (sh : Sh) : Sh := (((((((((((((((((((((((((((sh ++ [kI 6]) ++ [kI 6]) ++ [kI 6]) ++ [kI 6]) ++ [kI 13]) ++ [kI 52]) ++ [kI 120]) ++ [kI 6]) ++ [kI 6]) ++ [kI 13]) ++ [kI 7]) ++ [kI 7]) ++ [kI 13]) ++ [kL 7]) ++ [kL 7]) ++ [kL 7]) ++ [kL 7]) ++ [kL 8]) ++ [kL 9]) ++ [kI 7]) ++ [kI 7]) ++ [kI 6]) ++ [kI 6]) ++ [kI 4]) ++ [kI 4]) ++ [kI 52]) ++ [kI 13])
def iX8 (I : IM) (b n : Nat) : IM := (u2 (u2 (u2 (u2 (nI0 (nI0 (nI0 (nI0 (nI0 (u2 (nI0 (nI0 (nI0 (nI0 (nI0 (nI0 (nI0 (nI0 (nI0 (nI0 (nI0 (nI0 (nI0 (nI0 (nI0 (nI0 (u2 (nI0 (nI0 (nI0 (nI0 (nI0 (nI0 I n) (n + 1)) (n + 2)) (n + 3)) (n + 4)) (n + 5)) b 7 10) (n + 6)) (n + 7)) (n + 8)) (n + 9)) (n + 10)) (n + 11)) (n + 12)) (n + 13)) (n + 14)) (n + 15)) (n + 16)) (n + 17)) (n + 18)) (n + 19)) (n + 20)) (n + 21)) b 38 600) (n + 22)) (n + 23)) (n + 24)) (n + 25)) (n + 26)) (n + 23) 0 (-1)) (n + 23) 1 (-1)) (n + 23) 2 (-1)) (n + 23) 3 (-1))
def lX8 (L : LM) (b n : Nat) : LM := (nL0 (nL0 (nL0 (nL0 (nL0 (nL0 (nL0 (nL0 (nL0 (nL0 (nL0 (nL0 (nL0 (nL0 (nL0 (nL0 (nL0 (u2 (nL0 (nL0 (nL0 (nL0 (nL0 (nL0 (nL0 (nL0 (nL0 (nL0 L n) (n + 1)) (n + 2)) (n + 3)) (n + 4)) (n + 5)) (n + 6)) (n + 7)) (n + 8)) (n + 9)) b 18 1) (n + 10)) (n + 11)) (n + 12)) (n + 13)) (n + 14)) (n + 15)) (n + 16)) (n + 17)) (n + 18)) (n + 19)) (n + 20)) (n + 21)) (n + 22)) (n + 23)) (n + 24)) (n + 25)) (n + 26))
def rX8 (R : RM) (b n : Nat) : RM := (u2 (nR0 (u2 (nR0 (u2 (nR0 (u2 (nR0 (u2 (nR0 (u2 (nR0 (u2 (nR0 (u2 (nR0 (u2 (nR0 (u2 (nR0 (u2 (nR0 (u2 (nR0 (u2 (nR0 (u2 (nR0 (u2 (nR0 (u2 (nR0 (u2 (nR0 (u2 (nR0 (u2 (nR0 (u2 (nR0 (u2 (nR0 (u2 (nR0 (u2 (nR0 (u2 (nR0 (u2 (nR0 (u2 (nR0 (u2 (nR0 R n) b 1 (some n)) (n + 1)) b 2 (some (n + 1))) (n + 2)) b 3 (some (n + 2))) (n + 3)) b 4 (some (n + 3))) (n + 4)) b 5 (some (n + 4))) (n + 5)) b 6 (some (n + 5))) (n + 6)) b 8 (some (n + 6))) (n + 7)) b 13 (some (n + 7))) (n + 8)) b 14 (some (n + 8))) (n + 9)) b 15 (some (n + 9))) (n + 10)) b 20 (some (n + 10))) (n + 11)) b 21 (some (n + 11))) (n + 12)) b 22 (some (n + 12))) (n + 13)) b 23 (some (n + 13))) (n + 14)) b 24 (some (n + 14))) (n + 15)) b 25 (some (n + 15))) (n + 16)) b 26 (some (n + 16))) (n + 17)) b 27 (some (n + 17))) (n + 18)) b 28 (some (n + 18))) (n + 19)) b 33 (some (n + 19))) (n + 20)) b 34 (some (n + 20))) (n + 21)) b 35 (some (n + 21))) (n + 22)) b 39 (some (n + 22))) (n + 23)) b 40 (some (n + 23))) (n + 24)) b 41 (some (n + 24))) (n + 25)) b 42 (some (n + 25))) (n + 26)) b 43 (some (n + 26)))
theorem shX8_get {sh : Sh} {a : Nat} {k : Kd} (h : sh[a]? = some k) : (shX8 sh)[a]? = some k := by
  unfold shX8
  exact (get_app (get_app (get_app (get_app (get_app (get_app (get_app (get_app (get_app (get_app (get_app (get_app (get_app (get_app (get_app (get_app (get_app (get_app (get_app (get_app (get_app (get_app (get_app (get_app (get_app (get_app (get_app h)))))))))))))))))))))))))))
theorem shX8_len {sh : Sh} {n : Nat} (h : sh.length = n) : (shX8 sh).length = n + 27 := (len_app (len_app (len_app (len_app (len_app (len_app (len_app (len_app (len_app (len_app (len_app (len_app (len_app (len_app (len_app (len_app (len_app (len_app (len_app (len_app (len_app (len_app (len_app (len_app (len_app (len_app (len_app h)))))))))))))))))))))))))))
theorem iX8_o {I : IM} {b n a : Nat} (h1 : a ≠ b) (h2 : a < n) : iX8 I b n a = I a := by
  unfold iX8
  rw [u2_o (by omega), u2_o (by omega), u2_o (by omega), u2_o (by omega), nI0_o (by omega), nI0_o (by omega), nI0_o (by omega), nI0_o (by omega), nI0_o (by omega), u2_o (by omega), nI0_o (by omega), nI0_o (by omega), nI0_o (by omega), nI0_o (by omega), nI0_o (by omega), nI0_o (by omega), nI0_o (by omega), nI0_o (by omega), nI0_o (by omega), nI0_o (by omega), nI0_o (by omega), nI0_o (by omega), nI0_o (by omega), nI0_o (by omega), nI0_o (by omega), nI0_o (by omega), u2_o (by omega), nI0_o (by omega), nI0_o (by omega), nI0_o (by omega), nI0_o (by omega), nI0_o (by omega), nI0_o (by omega)]
theorem lX8_o {L : LM} {b n a : Nat} (h1 : a ≠ b) (h2 : a < n) : lX8 L b n a = L a := by
  unfold lX8
  rw [nL0_o (by omega), nL0_o (by omega), nL0_o (by omega), nL0_o (by omega), nL0_o (by omega), nL0_o (by omega), nL0_o (by omega), nL0_o (by omega), nL0_o (by omega), nL0_o (by omega), nL0_o (by omega), nL0_o (by omega), nL0_o (by omega), nL0_o (by omega), nL0_o (by omega), nL0_o (by omega), nL0_o (by omega), u2_o (by omega), nL0_o (by omega), nL0_o (by omega), nL0_o (by omega), nL0_o (by omega), nL0_o (by omega), nL0_o (by omega), nL0_o (by omega), nL0_o (by omega), nL0_o (by omega), nL0_o (by omega)]
theorem rX8_o {R : RM} {b n a : Nat} (h1 : a ≠ b) (h2 : a < n) : rX8 R b n a = R a := by
  unfold rX8
  rw [u2_o (by omega), nR0_o (by omega), u2_o (by omega), nR0_o (by omega), u2_o (by omega), nR0_o (by omega), u2_o (by omega), nR0_o (by omega), u2_o (by omega), nR0_o (by omega), u2_o (by omega), nR0_o (by omega), u2_o (by omega), nR0_o (by omega), u2_o (by omega), nR0_o (by omega), u2_o (by omega), nR0_o (by omega), u2_o (by omega), nR0_o (by omega), u2_o (by omega), nR0_o (by omega), u2_o (by omega), nR0_o (by omega), u2_o (by omega), nR0_o (by omega), u2_o (by omega), nR0_o (by omega), u2_o (by omega), nR0_o (by omega), u2_o (by omega), nR0_o (by omega), u2_o (by omega), nR0_o (by omega), u2_o (by omega), nR0_o (by omega), u2_o (by omega), nR0_o (by omega), u2_o (by omega), nR0_o (by omega), u2_o (by omega), nR0_o (by omega), u2_o (by omega), nR0_o (by omega), u2_o (by omega), nR0_o (by omega), u2_o (by omega), nR0_o (by omega), u2_o (by omega), nR0_o (by omega), u2_o (by omega), nR0_o (by omega), u2_o (by omega), nR0_o (by omega)]
set_option maxHeartbeats 4000000 in
set_option maxRecDepth 100000 in
theorem c_X8_init {sh : Sh} {I : IM} {L : LM} {R : RM} {b n : Nat} (hb : sh[b]? = some (kO 8)) (hn : sh.length = n) (hmx : n + 27 ≤ 900) : PMet M_X8_init [.ref b] sh I L R (pRet none (shX8 sh) (iX8 I b n) (lX8 L b n) (rX8 R b n)) := by
  refine PMet.of mf_X8_init (Nat.le_of_ble_eq_true rfl) ?_
  intro X h hr hml
  have hml : (xc X).maxLocals = 2 := hml
  have h : PXok X RX8 cX8_init 1 27 405 := h
  have hr : PXr X none "<init>" _ 27 405 := hr
  have hin := hr.2.2.2
  have hbn : b < n := by rw [← hn]; exact (List.getElem?_eq_some_iff.mp hb).1
  show PW X 0 [(0, .ref b)] [] sh I L R 0 0
  refine pw_aload_n h 0 d_X8_init_0 rfl ?_
  refine pw_obj h d_X8_init_1 ml_RX8_1 (by decide) (Nat.le_of_ble_eq_true rfl) ?_
  refine pw_aload_n h 0 d_X8_init_4 rfl ?_
  refine pw_bipush (x := 6) h d_X8_init_5 (by decide) ?_
  refine pw_newI (N := 6) h d_X8_init_7 (by decide) rfl (by decide) hn (ltA0 hmx) (rok_r hbn rok_nil) (rokl_r hbn rokl_nil) (by decide) (by decide) ?_
  have hn1 : ((sh ++ [kI 6])).length = (n + 1) := len_app hn
  have hs2 : ((sh ++ [kI 6]))[b]? = some (kO 8) := get_app hb
  refine pw_putF 8 h hin d_X8_init_9 fd_RX8_7 hs2 rfl rfl rfl (fun _ => rfl) (fun _ => rfl) (by rw [hn1]; exact (ltN (by decide))) ?_
  refine pw_aload_n h 0 d_X8_init_12 rfl ?_
  refine pw_bipush (x := 6) h d_X8_init_13 (by decide) ?_
  refine pw_newI (N := 6) h d_X8_init_15 (by decide) rfl (by decide) hn1 (ltA hmx (by decide)) (rok_r (ltB hbn) rok_nil) (rokl_r (ltB hbn) rokl_nil) (by decide) (by decide) ?_
  have hn3 : (((sh ++ [kI 6]) ++ [kI 6])).length = (n + 2) := len_app hn1
  have hs4 : (((sh ++ [kI 6]) ++ [kI 6]))[b]? = some (kO 8) := get_app hs2
  clear hn1 hs2
  refine pw_putF 8 h hin d_X8_init_17 fd_RX8_13 hs4 rfl rfl rfl (fun _ => rfl) (fun _ => rfl) (by rw [hn3]; exact (Nat.add_lt_add_left (by decide) n)) ?_
  refine pw_aload_n h 0 d_X8_init_20 rfl ?_
  refine pw_bipush (x := 6) h d_X8_init_21 (by decide) ?_
  refine pw_newI (N := 6) h d_X8_init_23 (by decide) rfl (by decide) hn3 (ltA hmx (by decide)) (rok_r (ltB hbn) rok_nil) (rokl_r (ltB hbn) rokl_nil) (by decide) (by decide) ?_
  have hn5 : ((((sh ++ [kI 6]) ++ [kI 6]) ++ [kI 6])).length = (n + 3) := len_app hn3
  have hs6 : ((((sh ++ [kI 6]) ++ [kI 6]) ++ [kI 6]))[b]? = some (kO 8) := get_app hs4
  clear hn3 hs4
  refine pw_putF 8 h hin d_X8_init_25 fd_RX8_16 hs6 rfl rfl rfl (fun _ => rfl) (fun _ => rfl) (by rw [hn5]; exact (Nat.add_lt_add_left (by decide) n)) ?_
  refine pw_aload_n h 0 d_X8_init_28 rfl ?_
  refine pw_bipush (x := 6) h d_X8_init_29 (by decide) ?_
  refine pw_newI (N := 6) h d_X8_init_31 (by decide) rfl (by decide) hn5 (ltA hmx (by decide)) (rok_r (ltB hbn) rok_nil) (rokl_r (ltB hbn) rokl_nil) (by decide) (by decide) ?_
  have hn7 : (((((sh ++ [kI 6]) ++ [kI 6]) ++ [kI 6]) ++ [kI 6])).length = (n + 4) := len_app hn5
  have hs8 : (((((sh ++ [kI 6]) ++ [kI 6]) ++ [kI 6]) ++ [kI 6]))[b]? = some (kO 8) := get_app hs6
  clear hn5 hs6
  refine pw_putF 8 h hin d_X8_init_33 fd_RX8_19 hs8 rfl rfl rfl (fun _ => rfl) (fun _ => rfl) (by rw [hn7]; exact (Nat.add_lt_add_left (by decide) n)) ?_
  refine pw_aload_n h 0 d_X8_init_36 rfl ?_
  refine pw_bipush (x := 13) h d_X8_init_37 (by decide) ?_
  refine pw_newI (N := 13) h d_X8_init_39 (by decide) rfl (by decide) hn7 (ltA hmx (by decide)) (rok_r (ltB hbn) rok_nil) (rokl_r (ltB hbn) rokl_nil) (by decide) (by decide) ?_
  have hn9 : ((((((sh ++ [kI 6]) ++ [kI 6]) ++ [kI 6]) ++ [kI 6]) ++ [kI 13])).length = (n + 5) := len_app hn7
  have hs10 : ((((((sh ++ [kI 6]) ++ [kI 6]) ++ [kI 6]) ++ [kI 6]) ++ [kI 13]))[b]? = some (kO 8) := get_app hs8
  clear hn7 hs8
  refine pw_putF 8 h hin d_X8_init_41 fd_RX8_22 hs10 rfl rfl rfl (fun _ => rfl) (fun _ => rfl) (by rw [hn9]; exact (Nat.add_lt_add_left (by decide) n)) ?_
  refine pw_aload_n h 0 d_X8_init_44 rfl ?_
  refine pw_bipush (x := 52) h d_X8_init_45 (by decide) ?_
  refine pw_newI (N := 52) h d_X8_init_47 (by decide) rfl (by decide) hn9 (ltA hmx (by decide)) (rok_r (ltB hbn) rok_nil) (rokl_r (ltB hbn) rokl_nil) (by decide) (by decide) ?_
  have hn11 : (((((((sh ++ [kI 6]) ++ [kI 6]) ++ [kI 6]) ++ [kI 6]) ++ [kI 13]) ++ [kI 52])).length = (n + 6) := len_app hn9
  have hs12 : (((((((sh ++ [kI 6]) ++ [kI 6]) ++ [kI 6]) ++ [kI 6]) ++ [kI 13]) ++ [kI 52]))[b]? = some (kO 8) := get_app hs10
  clear hn9 hs10
  refine pw_putF 8 h hin d_X8_init_49 fd_RX8_25 hs12 rfl rfl rfl (fun _ => rfl) (fun _ => rfl) (by rw [hn11]; exact (Nat.add_lt_add_left (by decide) n)) ?_
  refine pw_aload_n h 0 d_X8_init_52 rfl ?_
  refine pw_bipush (x := 10) h d_X8_init_53 (by decide) ?_
  refine pw_putI 8 h d_X8_init_55 fd_RX8_28 hs12 rfl rfl (by decide) (by decide) ?_
  refine pw_aload_n h 0 d_X8_init_58 rfl ?_
  refine pw_bipush (x := 120) h d_X8_init_59 (by decide) ?_
  refine pw_newI (N := 120) h d_X8_init_61 (by decide) rfl (by decide) hn11 (ltA hmx (by decide)) (rok_r (ltB hbn) rok_nil) (rokl_r (ltB hbn) rokl_nil) (by decide) (by decide) ?_
  have hn13 : ((((((((sh ++ [kI 6]) ++ [kI 6]) ++ [kI 6]) ++ [kI 6]) ++ [kI 13]) ++ [kI 52]) ++ [kI 120])).length = (n + 7) := len_app hn11
  have hs14 : ((((((((sh ++ [kI 6]) ++ [kI 6]) ++ [kI 6]) ++ [kI 6]) ++ [kI 13]) ++ [kI 52]) ++ [kI 120]))[b]? = some (kO 8) := get_app hs12
  clear hn11 hs12
  refine pw_putF 8 h hin d_X8_init_63 fd_RX8_32 hs14 rfl rfl rfl (fun _ => rfl) (fun _ => rfl) (by rw [hn13]; exact (Nat.add_lt_add_left (by decide) n)) ?_
  refine pw_aload_n h 0 d_X8_init_66 rfl ?_
  refine pw_bipush (x := 6) h d_X8_init_67 (by decide) ?_
  refine pw_newI (N := 6) h d_X8_init_69 (by decide) rfl (by decide) hn13 (ltA hmx (by decide)) (rok_r (ltB hbn) rok_nil) (rokl_r (ltB hbn) rokl_nil) (by decide) (by decide) ?_
  have hn15 : (((((((((sh ++ [kI 6]) ++ [kI 6]) ++ [kI 6]) ++ [kI 6]) ++ [kI 13]) ++ [kI 52]) ++ [kI 120]) ++ [kI 6])).length = (n + 8) := len_app hn13
  have hs16 : (((((((((sh ++ [kI 6]) ++ [kI 6]) ++ [kI 6]) ++ [kI 6]) ++ [kI 13]) ++ [kI 52]) ++ [kI 120]) ++ [kI 6]))[b]? = some (kO 8) := get_app hs14
  clear hn13 hs14
  refine pw_putF 8 h hin d_X8_init_71 fd_RX8_35 hs16 rfl rfl rfl (fun _ => rfl) (fun _ => rfl) (by rw [hn15]; exact (Nat.add_lt_add_left (by decide) n)) ?_
  refine pw_aload_n h 0 d_X8_init_74 rfl ?_
  refine pw_bipush (x := 6) h d_X8_init_75 (by decide) ?_
  refine pw_newI (N := 6) h d_X8_init_77 (by decide) rfl (by decide) hn15 (ltA hmx (by decide)) (rok_r (ltB hbn) rok_nil) (rokl_r (ltB hbn) rokl_nil) (by decide) (by decide) ?_
  have hn17 : ((((((((((sh ++ [kI 6]) ++ [kI 6]) ++ [kI 6]) ++ [kI 6]) ++ [kI 13]) ++ [kI 52]) ++ [kI 120]) ++ [kI 6]) ++ [kI 6])).length = (n + 9) := len_app hn15
  have hs18 : ((((((((((sh ++ [kI 6]) ++ [kI 6]) ++ [kI 6]) ++ [kI 6]) ++ [kI 13]) ++ [kI 52]) ++ [kI 120]) ++ [kI 6]) ++ [kI 6]))[b]? = some (kO 8) := get_app hs16
  clear hn15 hs16
  refine pw_putF 8 h hin d_X8_init_79 fd_RX8_38 hs18 rfl rfl rfl (fun _ => rfl) (fun _ => rfl) (by rw [hn17]; exact (Nat.add_lt_add_left (by decide) n)) ?_
  refine pw_aload_n h 0 d_X8_init_82 rfl ?_
  refine pw_bipush (x := 13) h d_X8_init_83 (by decide) ?_
  refine pw_newI (N := 13) h d_X8_init_85 (by decide) rfl (by decide) hn17 (ltA hmx (by decide)) (rok_r (ltB hbn) rok_nil) (rokl_r (ltB hbn) rokl_nil) (by decide) (by decide) ?_
  have hn19 : (((((((((((sh ++ [kI 6]) ++ [kI 6]) ++ [kI 6]) ++ [kI 6]) ++ [kI 13]) ++ [kI 52]) ++ [kI 120]) ++ [kI 6]) ++ [kI 6]) ++ [kI 13])).length = (n + 10) := len_app hn17
  have hs20 : (((((((((((sh ++ [kI 6]) ++ [kI 6]) ++ [kI 6]) ++ [kI 6]) ++ [kI 13]) ++ [kI 52]) ++ [kI 120]) ++ [kI 6]) ++ [kI 6]) ++ [kI 13]))[b]? = some (kO 8) := get_app hs18
  clear hn17 hs18
  refine pw_putF 8 h hin d_X8_init_87 fd_RX8_41 hs20 rfl rfl rfl (fun _ => rfl) (fun _ => rfl) (by rw [hn19]; exact (Nat.add_lt_add_left (by decide) n)) ?_
  refine pw_aload_n h 0 d_X8_init_90 rfl ?_
  refine pw_lconst (x := 1) h d_X8_init_91 (by decide) ?_
  refine pw_putL 8 h d_X8_init_92 fd_RX8_44 hs20 rfl rfl rfl rfl ?_
  refine pw_aload_n h 0 d_X8_init_95 rfl ?_
  refine pw_bipush (x := 7) h d_X8_init_96 (by decide) ?_
  refine pw_newI (N := 7) h d_X8_init_98 (by decide) rfl (by decide) hn19 (ltA hmx (by decide)) (rok_r (ltB hbn) rok_nil) (rokl_r (ltB hbn) rokl_nil) (by decide) (by decide) ?_
  have hn21 : ((((((((((((sh ++ [kI 6]) ++ [kI 6]) ++ [kI 6]) ++ [kI 6]) ++ [kI 13]) ++ [kI 52]) ++ [kI 120]) ++ [kI 6]) ++ [kI 6]) ++ [kI 13]) ++ [kI 7])).length = (n + 11) := len_app hn19
  have hs22 : ((((((((((((sh ++ [kI 6]) ++ [kI 6]) ++ [kI 6]) ++ [kI 6]) ++ [kI 13]) ++ [kI 52]) ++ [kI 120]) ++ [kI 6]) ++ [kI 6]) ++ [kI 13]) ++ [kI 7]))[b]? = some (kO 8) := get_app hs20
  clear hn19 hs20
  refine pw_putF 8 h hin d_X8_init_100 fd_RX8_48 hs22 rfl rfl rfl (fun _ => rfl) (fun _ => rfl) (by rw [hn21]; exact (Nat.add_lt_add_left (by decide) n)) ?_
  refine pw_aload_n h 0 d_X8_init_103 rfl ?_
  refine pw_bipush (x := 7) h d_X8_init_104 (by decide) ?_
  refine pw_newI (N := 7) h d_X8_init_106 (by decide) rfl (by decide) hn21 (ltA hmx (by decide)) (rok_r (ltB hbn) rok_nil) (rokl_r (ltB hbn) rokl_nil) (by decide) (by decide) ?_
  have hn23 : (((((((((((((sh ++ [kI 6]) ++ [kI 6]) ++ [kI 6]) ++ [kI 6]) ++ [kI 13]) ++ [kI 52]) ++ [kI 120]) ++ [kI 6]) ++ [kI 6]) ++ [kI 13]) ++ [kI 7]) ++ [kI 7])).length = (n + 12) := len_app hn21
  have hs24 : (((((((((((((sh ++ [kI 6]) ++ [kI 6]) ++ [kI 6]) ++ [kI 6]) ++ [kI 13]) ++ [kI 52]) ++ [kI 120]) ++ [kI 6]) ++ [kI 6]) ++ [kI 13]) ++ [kI 7]) ++ [kI 7]))[b]? = some (kO 8) := get_app hs22
  clear hn21 hs22
  refine pw_putF 8 h hin d_X8_init_108 fd_RX8_51 hs24 rfl rfl rfl (fun _ => rfl) (fun _ => rfl) (by rw [hn23]; exact (Nat.add_lt_add_left (by decide) n)) ?_
  refine pw_aload_n h 0 d_X8_init_111 rfl ?_
  refine pw_bipush (x := 13) h d_X8_init_112 (by decide) ?_
  refine pw_newI (N := 13) h d_X8_init_114 (by decide) rfl (by decide) hn23 (ltA hmx (by decide)) (rok_r (ltB hbn) rok_nil) (rokl_r (ltB hbn) rokl_nil) (by decide) (by decide) ?_
  have hn25 : ((((((((((((((sh ++ [kI 6]) ++ [kI 6]) ++ [kI 6]) ++ [kI 6]) ++ [kI 13]) ++ [kI 52]) ++ [kI 120]) ++ [kI 6]) ++ [kI 6]) ++ [kI 13]) ++ [kI 7]) ++ [kI 7]) ++ [kI 13])).length = (n + 13) := len_app hn23
  have hs26 : ((((((((((((((sh ++ [kI 6]) ++ [kI 6]) ++ [kI 6]) ++ [kI 6]) ++ [kI 13]) ++ [kI 52]) ++ [kI 120]) ++ [kI 6]) ++ [kI 6]) ++ [kI 13]) ++ [kI 7]) ++ [kI 7]) ++ [kI 13]))[b]? = some (kO 8) := get_app hs24
  clear hn23 hs24
  refine pw_putF 8 h hin d_X8_init_116 fd_RX8_54 hs26 rfl rfl rfl (fun _ => rfl) (fun _ => rfl) (by rw [hn25]; exact (Nat.add_lt_add_left (by decide) n)) ?_
  refine pw_aload_n h 0 d_X8_init_119 rfl ?_
  refine pw_bipush (x := 7) h d_X8_init_120 (by decide) ?_
  refine pw_newL (N := 7) h d_X8_init_122 (by decide) rfl (by decide) hn25 (ltA hmx (by decide)) (rok_r (ltB hbn) rok_nil) (rokl_r (ltB hbn) rokl_nil) (by decide) (by decide) ?_
  have hn27 : (((((((((((((((sh ++ [kI 6]) ++ [kI 6]) ++ [kI 6]) ++ [kI 6]) ++ [kI 13]) ++ [kI 52]) ++ [kI 120]) ++ [kI 6]) ++ [kI 6]) ++ [kI 13]) ++ [kI 7]) ++ [kI 7]) ++ [kI 13]) ++ [kL 7])).length = (n + 14) := len_app hn25
  have hs28 : (((((((((((((((sh ++ [kI 6]) ++ [kI 6]) ++ [kI 6]) ++ [kI 6]) ++ [kI 13]) ++ [kI 52]) ++ [kI 120]) ++ [kI 6]) ++ [kI 6]) ++ [kI 13]) ++ [kI 7]) ++ [kI 7]) ++ [kI 13]) ++ [kL 7]))[b]? = some (kO 8) := get_app hs26
  clear hn25 hs26
  refine pw_putF 8 h hin d_X8_init_124 fd_RX8_57 hs28 rfl rfl rfl (fun _ => rfl) (fun _ => rfl) (by rw [hn27]; exact (Nat.add_lt_add_left (by decide) n)) ?_
  refine pw_aload_n h 0 d_X8_init_127 rfl ?_
  refine pw_bipush (x := 7) h d_X8_init_128 (by decide) ?_
  refine pw_newL (N := 7) h d_X8_init_130 (by decide) rfl (by decide) hn27 (ltA hmx (by decide)) (rok_r (ltB hbn) rok_nil) (rokl_r (ltB hbn) rokl_nil) (by decide) (by decide) ?_
  have hn29 : ((((((((((((((((sh ++ [kI 6]) ++ [kI 6]) ++ [kI 6]) ++ [kI 6]) ++ [kI 13]) ++ [kI 52]) ++ [kI 120]) ++ [kI 6]) ++ [kI 6]) ++ [kI 13]) ++ [kI 7]) ++ [kI 7]) ++ [kI 13]) ++ [kL 7]) ++ [kL 7])).length = (n + 15) := len_app hn27
  have hs30 : ((((((((((((((((sh ++ [kI 6]) ++ [kI 6]) ++ [kI 6]) ++ [kI 6]) ++ [kI 13]) ++ [kI 52]) ++ [kI 120]) ++ [kI 6]) ++ [kI 6]) ++ [kI 13]) ++ [kI 7]) ++ [kI 7]) ++ [kI 13]) ++ [kL 7]) ++ [kL 7]))[b]? = some (kO 8) := get_app hs28
  clear hn27 hs28
  refine pw_putF 8 h hin d_X8_init_132 fd_RX8_61 hs30 rfl rfl rfl (fun _ => rfl) (fun _ => rfl) (by rw [hn29]; exact (Nat.add_lt_add_left (by decide) n)) ?_
  refine pw_aload_n h 0 d_X8_init_135 rfl ?_
  refine pw_bipush (x := 7) h d_X8_init_136 (by decide) ?_
  refine pw_newL (N := 7) h d_X8_init_138 (by decide) rfl (by decide) hn29 (ltA hmx (by decide)) (rok_r (ltB hbn) rok_nil) (rokl_r (ltB hbn) rokl_nil) (by decide) (by decide) ?_
  have hn31 : (((((((((((((((((sh ++ [kI 6]) ++ [kI 6]) ++ [kI 6]) ++ [kI 6]) ++ [kI 13]) ++ [kI 52]) ++ [kI 120]) ++ [kI 6]) ++ [kI 6]) ++ [kI 13]) ++ [kI 7]) ++ [kI 7]) ++ [kI 13]) ++ [kL 7]) ++ [kL 7]) ++ [kL 7])).length = (n + 16) := len_app hn29
  have hs32 : (((((((((((((((((sh ++ [kI 6]) ++ [kI 6]) ++ [kI 6]) ++ [kI 6]) ++ [kI 13]) ++ [kI 52]) ++ [kI 120]) ++ [kI 6]) ++ [kI 6]) ++ [kI 13]) ++ [kI 7]) ++ [kI 7]) ++ [kI 13]) ++ [kL 7]) ++ [kL 7]) ++ [kL 7]))[b]? = some (kO 8) := get_app hs30
  clear hn29 hs30
  refine pw_putF 8 h hin d_X8_init_140 fd_RX8_64 hs32 rfl rfl rfl (fun _ => rfl) (fun _ => rfl) (by rw [hn31]; exact (Nat.add_lt_add_left (by decide) n)) ?_
  refine pw_aload_n h 0 d_X8_init_143 rfl ?_
  refine pw_bipush (x := 7) h d_X8_init_144 (by decide) ?_
  refine pw_newL (N := 7) h d_X8_init_146 (by decide) rfl (by decide) hn31 (ltA hmx (by decide)) (rok_r (ltB hbn) rok_nil) (rokl_r (ltB hbn) rokl_nil) (by decide) (by decide) ?_
  have hn33 : ((((((((((((((((((sh ++ [kI 6]) ++ [kI 6]) ++ [kI 6]) ++ [kI 6]) ++ [kI 13]) ++ [kI 52]) ++ [kI 120]) ++ [kI 6]) ++ [kI 6]) ++ [kI 13]) ++ [kI 7]) ++ [kI 7]) ++ [kI 13]) ++ [kL 7]) ++ [kL 7]) ++ [kL 7]) ++ [kL 7])).length = (n + 17) := len_app hn31
  have hs34 : ((((((((((((((((((sh ++ [kI 6]) ++ [kI 6]) ++ [kI 6]) ++ [kI 6]) ++ [kI 13]) ++ [kI 52]) ++ [kI 120]) ++ [kI 6]) ++ [kI 6]) ++ [kI 13]) ++ [kI 7]) ++ [kI 7]) ++ [kI 13]) ++ [kL 7]) ++ [kL 7]) ++ [kL 7]) ++ [kL 7]))[b]? = some (kO 8) := get_app hs32
  clear hn31 hs32
  refine pw_putF 8 h hin d_X8_init_148 fd_RX8_67 hs34 rfl rfl rfl (fun _ => rfl) (fun _ => rfl) (by rw [hn33]; exact (Nat.add_lt_add_left (by decide) n)) ?_
  refine pw_aload_n h 0 d_X8_init_151 rfl ?_
  refine pw_bipush (x := 8) h d_X8_init_152 (by decide) ?_
  refine pw_newL (N := 8) h d_X8_init_154 (by decide) rfl (by decide) hn33 (ltA hmx (by decide)) (rok_r (ltB hbn) rok_nil) (rokl_r (ltB hbn) rokl_nil) (by decide) (by decide) ?_
  have hn35 : (((((((((((((((((((sh ++ [kI 6]) ++ [kI 6]) ++ [kI 6]) ++ [kI 6]) ++ [kI 13]) ++ [kI 52]) ++ [kI 120]) ++ [kI 6]) ++ [kI 6]) ++ [kI 13]) ++ [kI 7]) ++ [kI 7]) ++ [kI 13]) ++ [kL 7]) ++ [kL 7]) ++ [kL 7]) ++ [kL 7]) ++ [kL 8])).length = (n + 18) := len_app hn33
  have hs36 : (((((((((((((((((((sh ++ [kI 6]) ++ [kI 6]) ++ [kI 6]) ++ [kI 6]) ++ [kI 13]) ++ [kI 52]) ++ [kI 120]) ++ [kI 6]) ++ [kI 6]) ++ [kI 13]) ++ [kI 7]) ++ [kI 7]) ++ [kI 13]) ++ [kL 7]) ++ [kL 7]) ++ [kL 7]) ++ [kL 7]) ++ [kL 8]))[b]? = some (kO 8) := get_app hs34
  clear hn33 hs34
  refine pw_putF 8 h hin d_X8_init_156 fd_RX8_70 hs36 rfl rfl rfl (fun _ => rfl) (fun _ => rfl) (by rw [hn35]; exact (Nat.add_lt_add_left (by decide) n)) ?_
  refine pw_aload_n h 0 d_X8_init_159 rfl ?_
  refine pw_bipush (x := 9) h d_X8_init_160 (by decide) ?_
  refine pw_newL (N := 9) h d_X8_init_162 (by decide) rfl (by decide) hn35 (ltA hmx (by decide)) (rok_r (ltB hbn) rok_nil) (rokl_r (ltB hbn) rokl_nil) (by decide) (by decide) ?_
  have hn37 : ((((((((((((((((((((sh ++ [kI 6]) ++ [kI 6]) ++ [kI 6]) ++ [kI 6]) ++ [kI 13]) ++ [kI 52]) ++ [kI 120]) ++ [kI 6]) ++ [kI 6]) ++ [kI 13]) ++ [kI 7]) ++ [kI 7]) ++ [kI 13]) ++ [kL 7]) ++ [kL 7]) ++ [kL 7]) ++ [kL 7]) ++ [kL 8]) ++ [kL 9])).length = (n + 19) := len_app hn35
  have hs38 : ((((((((((((((((((((sh ++ [kI 6]) ++ [kI 6]) ++ [kI 6]) ++ [kI 6]) ++ [kI 13]) ++ [kI 52]) ++ [kI 120]) ++ [kI 6]) ++ [kI 6]) ++ [kI 13]) ++ [kI 7]) ++ [kI 7]) ++ [kI 13]) ++ [kL 7]) ++ [kL 7]) ++ [kL 7]) ++ [kL 7]) ++ [kL 8]) ++ [kL 9]))[b]? = some (kO 8) := get_app hs36
  clear hn35 hs36
  refine pw_putF 8 h hin d_X8_init_164 fd_RX8_73 hs38 rfl rfl rfl (fun _ => rfl) (fun _ => rfl) (by rw [hn37]; exact (Nat.add_lt_add_left (by decide) n)) ?_
  refine pw_aload_n h 0 d_X8_init_167 rfl ?_
  refine pw_bipush (x := 7) h d_X8_init_168 (by decide) ?_
  refine pw_newI (N := 7) h d_X8_init_170 (by decide) rfl (by decide) hn37 (ltA hmx (by decide)) (rok_r (ltB hbn) rok_nil) (rokl_r (ltB hbn) rokl_nil) (by decide) (by decide) ?_
  have hn39 : (((((((((((((((((((((sh ++ [kI 6]) ++ [kI 6]) ++ [kI 6]) ++ [kI 6]) ++ [kI 13]) ++ [kI 52]) ++ [kI 120]) ++ [kI 6]) ++ [kI 6]) ++ [kI 13]) ++ [kI 7]) ++ [kI 7]) ++ [kI 13]) ++ [kL 7]) ++ [kL 7]) ++ [kL 7]) ++ [kL 7]) ++ [kL 8]) ++ [kL 9]) ++ [kI 7])).length = (n + 20) := len_app hn37
  have hs40 : (((((((((((((((((((((sh ++ [kI 6]) ++ [kI 6]) ++ [kI 6]) ++ [kI 6]) ++ [kI 13]) ++ [kI 52]) ++ [kI 120]) ++ [kI 6]) ++ [kI 6]) ++ [kI 13]) ++ [kI 7]) ++ [kI 7]) ++ [kI 13]) ++ [kL 7]) ++ [kL 7]) ++ [kL 7]) ++ [kL 7]) ++ [kL 8]) ++ [kL 9]) ++ [kI 7]))[b]? = some (kO 8) := get_app hs38
  clear hn37 hs38
  refine pw_putF 8 h hin d_X8_init_172 fd_RX8_76 hs40 rfl rfl rfl (fun _ => rfl) (fun _ => rfl) (by rw [hn39]; exact (Nat.add_lt_add_left (by decide) n)) ?_
  refine pw_aload_n h 0 d_X8_init_175 rfl ?_
  refine pw_bipush (x := 7) h d_X8_init_176 (by decide) ?_
  refine pw_newI (N := 7) h d_X8_init_178 (by decide) rfl (by decide) hn39 (ltA hmx (by decide)) (rok_r (ltB hbn) rok_nil) (rokl_r (ltB hbn) rokl_nil) (by decide) (by decide) ?_
  have hn41 : ((((((((((((((((((((((sh ++ [kI 6]) ++ [kI 6]) ++ [kI 6]) ++ [kI 6]) ++ [kI 13]) ++ [kI 52]) ++ [kI 120]) ++ [kI 6]) ++ [kI 6]) ++ [kI 13]) ++ [kI 7]) ++ [kI 7]) ++ [kI 13]) ++ [kL 7]) ++ [kL 7]) ++ [kL 7]) ++ [kL 7]) ++ [kL 8]) ++ [kL 9]) ++ [kI 7]) ++ [kI 7])).length = (n + 21) := len_app hn39
  have hs42 : ((((((((((((((((((((((sh ++ [kI 6]) ++ [kI 6]) ++ [kI 6]) ++ [kI 6]) ++ [kI 13]) ++ [kI 52]) ++ [kI 120]) ++ [kI 6]) ++ [kI 6]) ++ [kI 13]) ++ [kI 7]) ++ [kI 7]) ++ [kI 13]) ++ [kL 7]) ++ [kL 7]) ++ [kL 7]) ++ [kL 7]) ++ [kL 8]) ++ [kL 9]) ++ [kI 7]) ++ [kI 7]))[b]? = some (kO 8) := get_app hs40
  clear hn39 hs40
  refine pw_putF 8 h hin d_X8_init_180 fd_RX8_79 hs42 rfl rfl rfl (fun _ => rfl) (fun _ => rfl) (by rw [hn41]; exact (Nat.add_lt_add_left (by decide) n)) ?_
  refine pw_aload_n h 0 d_X8_init_183 rfl ?_
  refine pw_bipush (x := 6) h d_X8_init_184 (by decide) ?_
  refine pw_newI (N := 6) h d_X8_init_186 (by decide) rfl (by decide) hn41 (ltA hmx (by decide)) (rok_r (ltB hbn) rok_nil) (rokl_r (ltB hbn) rokl_nil) (by decide) (by decide) ?_
  have hn43 : (((((((((((((((((((((((sh ++ [kI 6]) ++ [kI 6]) ++ [kI 6]) ++ [kI 6]) ++ [kI 13]) ++ [kI 52]) ++ [kI 120]) ++ [kI 6]) ++ [kI 6]) ++ [kI 13]) ++ [kI 7]) ++ [kI 7]) ++ [kI 13]) ++ [kL 7]) ++ [kL 7]) ++ [kL 7]) ++ [kL 7]) ++ [kL 8]) ++ [kL 9]) ++ [kI 7]) ++ [kI 7]) ++ [kI 6])).length = (n + 22) := len_app hn41
  have hs44 : (((((((((((((((((((((((sh ++ [kI 6]) ++ [kI 6]) ++ [kI 6]) ++ [kI 6]) ++ [kI 13]) ++ [kI 52]) ++ [kI 120]) ++ [kI 6]) ++ [kI 6]) ++ [kI 13]) ++ [kI 7]) ++ [kI 7]) ++ [kI 13]) ++ [kL 7]) ++ [kL 7]) ++ [kL 7]) ++ [kL 7]) ++ [kL 8]) ++ [kL 9]) ++ [kI 7]) ++ [kI 7]) ++ [kI 6]))[b]? = some (kO 8) := get_app hs42
  clear hn41 hs42
  refine pw_putF 8 h hin d_X8_init_188 fd_RX8_82 hs44 rfl rfl rfl (fun _ => rfl) (fun _ => rfl) (by rw [hn43]; exact (Nat.add_lt_add_left (by decide) n)) ?_
  refine pw_aload_n h 0 d_X8_init_191 rfl ?_
  refine pw_sipush (x := 600) h d_X8_init_192 (by decide) ?_
  refine pw_putI 8 h d_X8_init_195 fd_RX8_85 hs44 rfl rfl (by decide) (by decide) ?_
  refine pw_aload_n h 0 d_X8_init_198 rfl ?_
  refine pw_bipush (x := 6) h d_X8_init_199 (by decide) ?_
  refine pw_newI (N := 6) h d_X8_init_201 (by decide) rfl (by decide) hn43 (ltA hmx (by decide)) (rok_r (ltB hbn) rok_nil) (rokl_r (ltB hbn) rokl_nil) (by decide) (by decide) ?_
  have hn45 : ((((((((((((((((((((((((sh ++ [kI 6]) ++ [kI 6]) ++ [kI 6]) ++ [kI 6]) ++ [kI 13]) ++ [kI 52]) ++ [kI 120]) ++ [kI 6]) ++ [kI 6]) ++ [kI 13]) ++ [kI 7]) ++ [kI 7]) ++ [kI 13]) ++ [kL 7]) ++ [kL 7]) ++ [kL 7]) ++ [kL 7]) ++ [kL 8]) ++ [kL 9]) ++ [kI 7]) ++ [kI 7]) ++ [kI 6]) ++ [kI 6])).length = (n + 23) := len_app hn43
  have hs46 : ((((((((((((((((((((((((sh ++ [kI 6]) ++ [kI 6]) ++ [kI 6]) ++ [kI 6]) ++ [kI 13]) ++ [kI 52]) ++ [kI 120]) ++ [kI 6]) ++ [kI 6]) ++ [kI 13]) ++ [kI 7]) ++ [kI 7]) ++ [kI 13]) ++ [kL 7]) ++ [kL 7]) ++ [kL 7]) ++ [kL 7]) ++ [kL 8]) ++ [kL 9]) ++ [kI 7]) ++ [kI 7]) ++ [kI 6]) ++ [kI 6]))[b]? = some (kO 8) := get_app hs44
  clear hn43 hs44
  refine pw_putF 8 h hin d_X8_init_203 fd_RX8_88 hs46 rfl rfl rfl (fun _ => rfl) (fun _ => rfl) (by rw [hn45]; exact (Nat.add_lt_add_left (by decide) n)) ?_
  refine pw_aload_n h 0 d_X8_init_206 rfl ?_
  refine pw_iconst (x := 4) h d_X8_init_207 (by decide) ?_
  refine pw_newI (N := 4) h d_X8_init_208 (by decide) rfl (by decide) hn45 (ltA hmx (by decide)) (rok_r (ltB hbn) rok_nil) (rokl_r (ltB hbn) rokl_nil) (by decide) (by decide) ?_
  have hn47 : (((((((((((((((((((((((((sh ++ [kI 6]) ++ [kI 6]) ++ [kI 6]) ++ [kI 6]) ++ [kI 13]) ++ [kI 52]) ++ [kI 120]) ++ [kI 6]) ++ [kI 6]) ++ [kI 13]) ++ [kI 7]) ++ [kI 7]) ++ [kI 13]) ++ [kL 7]) ++ [kL 7]) ++ [kL 7]) ++ [kL 7]) ++ [kL 8]) ++ [kL 9]) ++ [kI 7]) ++ [kI 7]) ++ [kI 6]) ++ [kI 6]) ++ [kI 4])).length = (n + 24) := len_app hn45
  have hs48 : (((((((((((((((((((((((((sh ++ [kI 6]) ++ [kI 6]) ++ [kI 6]) ++ [kI 6]) ++ [kI 13]) ++ [kI 52]) ++ [kI 120]) ++ [kI 6]) ++ [kI 6]) ++ [kI 13]) ++ [kI 7]) ++ [kI 7]) ++ [kI 13]) ++ [kL 7]) ++ [kL 7]) ++ [kL 7]) ++ [kL 7]) ++ [kL 8]) ++ [kL 9]) ++ [kI 7]) ++ [kI 7]) ++ [kI 6]) ++ [kI 6]) ++ [kI 4]))[b]? = some (kO 8) := get_app hs46
  have hs49 : (((((((((((((((((((((((((sh ++ [kI 6]) ++ [kI 6]) ++ [kI 6]) ++ [kI 6]) ++ [kI 13]) ++ [kI 52]) ++ [kI 120]) ++ [kI 6]) ++ [kI 6]) ++ [kI 13]) ++ [kI 7]) ++ [kI 7]) ++ [kI 13]) ++ [kL 7]) ++ [kL 7]) ++ [kL 7]) ++ [kL 7]) ++ [kL 8]) ++ [kL 9]) ++ [kI 7]) ++ [kI 7]) ++ [kI 6]) ++ [kI 6]) ++ [kI 4]))[(n + 23)]? = some (kI 4) := get_new hn45
  clear hn45 hs46
  refine pw_putF 8 h hin d_X8_init_210 fd_RX8_91 hs48 rfl rfl rfl (fun _ => rfl) (fun _ => rfl) (by rw [hn47]; exact (Nat.add_lt_add_left (by decide) n)) ?_
  have hr50 : ((u2 (nR0 (u2 (nR0 (u2 (nR0 (u2 (nR0 (u2 (nR0 (u2 (nR0 (u2 (nR0 (u2 (nR0 (u2 (nR0 (u2 (nR0 (u2 (nR0 (u2 (nR0 (u2 (nR0 (u2 (nR0 (u2 (nR0 (u2 (nR0 (u2 (nR0 (u2 (nR0 (u2 (nR0 (u2 (nR0 (u2 (nR0 (u2 (nR0 (u2 (nR0 (u2 (nR0 R n) b 1 (some n)) (n + 1)) b 2 (some (n + 1))) (n + 2)) b 3 (some (n + 2))) (n + 3)) b 4 (some (n + 3))) (n + 4)) b 5 (some (n + 4))) (n + 5)) b 6 (some (n + 5))) (n + 6)) b 8 (some (n + 6))) (n + 7)) b 13 (some (n + 7))) (n + 8)) b 14 (some (n + 8))) (n + 9)) b 15 (some (n + 9))) (n + 10)) b 20 (some (n + 10))) (n + 11)) b 21 (some (n + 11))) (n + 12)) b 22 (some (n + 12))) (n + 13)) b 23 (some (n + 13))) (n + 14)) b 24 (some (n + 14))) (n + 15)) b 25 (some (n + 15))) (n + 16)) b 26 (some (n + 16))) (n + 17)) b 27 (some (n + 17))) (n + 18)) b 28 (some (n + 18))) (n + 19)) b 33 (some (n + 19))) (n + 20)) b 34 (some (n + 20))) (n + 21)) b 35 (some (n + 21))) (n + 22)) b 39 (some (n + 22))) (n + 23)) b 40 (some (n + 23)))) b 40 = some (n + 23) := u2_s
  refine pw_aload_n h 0 d_X8_init_213 rfl ?_
  refine pw_iconst (x := 4) h d_X8_init_214 (by decide) ?_
  refine pw_newI (N := 4) h d_X8_init_215 (by decide) rfl (by decide) hn47 (ltA hmx (by decide)) (rok_r (ltB hbn) rok_nil) (rokl_r (ltB hbn) rokl_nil) (by decide) (by decide) ?_
  have hn51 : ((((((((((((((((((((((((((sh ++ [kI 6]) ++ [kI 6]) ++ [kI 6]) ++ [kI 6]) ++ [kI 13]) ++ [kI 52]) ++ [kI 120]) ++ [kI 6]) ++ [kI 6]) ++ [kI 13]) ++ [kI 7]) ++ [kI 7]) ++ [kI 13]) ++ [kL 7]) ++ [kL 7]) ++ [kL 7]) ++ [kL 7]) ++ [kL 8]) ++ [kL 9]) ++ [kI 7]) ++ [kI 7]) ++ [kI 6]) ++ [kI 6]) ++ [kI 4]) ++ [kI 4])).length = (n + 25) := len_app hn47
  have hs52 : ((((((((((((((((((((((((((sh ++ [kI 6]) ++ [kI 6]) ++ [kI 6]) ++ [kI 6]) ++ [kI 13]) ++ [kI 52]) ++ [kI 120]) ++ [kI 6]) ++ [kI 6]) ++ [kI 13]) ++ [kI 7]) ++ [kI 7]) ++ [kI 13]) ++ [kL 7]) ++ [kL 7]) ++ [kL 7]) ++ [kL 7]) ++ [kL 8]) ++ [kL 9]) ++ [kI 7]) ++ [kI 7]) ++ [kI 6]) ++ [kI 6]) ++ [kI 4]) ++ [kI 4]))[b]? = some (kO 8) := get_app hs48
  have hs53 : ((((((((((((((((((((((((((sh ++ [kI 6]) ++ [kI 6]) ++ [kI 6]) ++ [kI 6]) ++ [kI 13]) ++ [kI 52]) ++ [kI 120]) ++ [kI 6]) ++ [kI 6]) ++ [kI 13]) ++ [kI 7]) ++ [kI 7]) ++ [kI 13]) ++ [kL 7]) ++ [kL 7]) ++ [kL 7]) ++ [kL 7]) ++ [kL 8]) ++ [kL 9]) ++ [kI 7]) ++ [kI 7]) ++ [kI 6]) ++ [kI 6]) ++ [kI 4]) ++ [kI 4]))[(n + 23)]? = some (kI 4) := get_app hs49
  have hr54 : ((nR0 (u2 (nR0 (u2 (nR0 (u2 (nR0 (u2 (nR0 (u2 (nR0 (u2 (nR0 (u2 (nR0 (u2 (nR0 (u2 (nR0 (u2 (nR0 (u2 (nR0 (u2 (nR0 (u2 (nR0 (u2 (nR0 (u2 (nR0 (u2 (nR0 (u2 (nR0 (u2 (nR0 (u2 (nR0 (u2 (nR0 (u2 (nR0 (u2 (nR0 (u2 (nR0 (u2 (nR0 R n) b 1 (some n)) (n + 1)) b 2 (some (n + 1))) (n + 2)) b 3 (some (n + 2))) (n + 3)) b 4 (some (n + 3))) (n + 4)) b 5 (some (n + 4))) (n + 5)) b 6 (some (n + 5))) (n + 6)) b 8 (some (n + 6))) (n + 7)) b 13 (some (n + 7))) (n + 8)) b 14 (some (n + 8))) (n + 9)) b 15 (some (n + 9))) (n + 10)) b 20 (some (n + 10))) (n + 11)) b 21 (some (n + 11))) (n + 12)) b 22 (some (n + 12))) (n + 13)) b 23 (some (n + 13))) (n + 14)) b 24 (some (n + 14))) (n + 15)) b 25 (some (n + 15))) (n + 16)) b 26 (some (n + 16))) (n + 17)) b 27 (some (n + 17))) (n + 18)) b 28 (some (n + 18))) (n + 19)) b 33 (some (n + 19))) (n + 20)) b 34 (some (n + 20))) (n + 21)) b 35 (some (n + 21))) (n + 22)) b 39 (some (n + 22))) (n + 23)) b 40 (some (n + 23))) (n + 24))) b 40 = some (n + 23) := by rw [nR0_o (neB hbn)]; exact hr50
  clear hn47 hs48 hs49 hr50
  refine pw_putF 8 h hin d_X8_init_217 fd_RX8_94 hs52 rfl rfl rfl (fun _ => rfl) (fun _ => rfl) (by rw [hn51]; exact (Nat.add_lt_add_left (by decide) n)) ?_
  have hr55 : ((u2 (nR0 (u2 (nR0 (u2 (nR0 (u2 (nR0 (u2 (nR0 (u2 (nR0 (u2 (nR0 (u2 (nR0 (u2 (nR0 (u2 (nR0 (u2 (nR0 (u2 (nR0 (u2 (nR0 (u2 (nR0 (u2 (nR0 (u2 (nR0 (u2 (nR0 (u2 (nR0 (u2 (nR0 (u2 (nR0 (u2 (nR0 (u2 (nR0 (u2 (nR0 (u2 (nR0 (u2 (nR0 R n) b 1 (some n)) (n + 1)) b 2 (some (n + 1))) (n + 2)) b 3 (some (n + 2))) (n + 3)) b 4 (some (n + 3))) (n + 4)) b 5 (some (n + 4))) (n + 5)) b 6 (some (n + 5))) (n + 6)) b 8 (some (n + 6))) (n + 7)) b 13 (some (n + 7))) (n + 8)) b 14 (some (n + 8))) (n + 9)) b 15 (some (n + 9))) (n + 10)) b 20 (some (n + 10))) (n + 11)) b 21 (some (n + 11))) (n + 12)) b 22 (some (n + 12))) (n + 13)) b 23 (some (n + 13))) (n + 14)) b 24 (some (n + 14))) (n + 15)) b 25 (some (n + 15))) (n + 16)) b 26 (some (n + 16))) (n + 17)) b 27 (some (n + 17))) (n + 18)) b 28 (some (n + 18))) (n + 19)) b 33 (some (n + 19))) (n + 20)) b 34 (some (n + 20))) (n + 21)) b 35 (some (n + 21))) (n + 22)) b 39 (some (n + 22))) (n + 23)) b 40 (some (n + 23))) (n + 24)) b 41 (some (n + 24)))) b 40 = some (n + 23) := by rw [u2_n2 (by decide)]; exact hr54
  clear hr54
  refine pw_aload_n h 0 d_X8_init_220 rfl ?_
  refine pw_bipush (x := 52) h d_X8_init_221 (by decide) ?_
  refine pw_newI (N := 52) h d_X8_init_223 (by decide) rfl (by decide) hn51 (ltA hmx (by decide)) (rok_r (ltB hbn) rok_nil) (rokl_r (ltB hbn) rokl_nil) (by decide) (by decide) ?_
  have hn56 : (((((((((((((((((((((((((((sh ++ [kI 6]) ++ [kI 6]) ++ [kI 6]) ++ [kI 6]) ++ [kI 13]) ++ [kI 52]) ++ [kI 120]) ++ [kI 6]) ++ [kI 6]) ++ [kI 13]) ++ [kI 7]) ++ [kI 7]) ++ [kI 13]) ++ [kL 7]) ++ [kL 7]) ++ [kL 7]) ++ [kL 7]) ++ [kL 8]) ++ [kL 9]) ++ [kI 7]) ++ [kI 7]) ++ [kI 6]) ++ [kI 6]) ++ [kI 4]) ++ [kI 4]) ++ [kI 52])).length = (n + 26) := len_app hn51
  have hs57 : (((((((((((((((((((((((((((sh ++ [kI 6]) ++ [kI 6]) ++ [kI 6]) ++ [kI 6]) ++ [kI 13]) ++ [kI 52]) ++ [kI 120]) ++ [kI 6]) ++ [kI 6]) ++ [kI 13]) ++ [kI 7]) ++ [kI 7]) ++ [kI 13]) ++ [kL 7]) ++ [kL 7]) ++ [kL 7]) ++ [kL 7]) ++ [kL 8]) ++ [kL 9]) ++ [kI 7]) ++ [kI 7]) ++ [kI 6]) ++ [kI 6]) ++ [kI 4]) ++ [kI 4]) ++ [kI 52]))[b]? = some (kO 8) := get_app hs52
  have hs58 : (((((((((((((((((((((((((((sh ++ [kI 6]) ++ [kI 6]) ++ [kI 6]) ++ [kI 6]) ++ [kI 13]) ++ [kI 52]) ++ [kI 120]) ++ [kI 6]) ++ [kI 6]) ++ [kI 13]) ++ [kI 7]) ++ [kI 7]) ++ [kI 13]) ++ [kL 7]) ++ [kL 7]) ++ [kL 7]) ++ [kL 7]) ++ [kL 8]) ++ [kL 9]) ++ [kI 7]) ++ [kI 7]) ++ [kI 6]) ++ [kI 6]) ++ [kI 4]) ++ [kI 4]) ++ [kI 52]))[(n + 23)]? = some (kI 4) := get_app hs53
  have hr59 : ((nR0 (u2 (nR0 (u2 (nR0 (u2 (nR0 (u2 (nR0 (u2 (nR0 (u2 (nR0 (u2 (nR0 (u2 (nR0 (u2 (nR0 (u2 (nR0 (u2 (nR0 (u2 (nR0 (u2 (nR0 (u2 (nR0 (u2 (nR0 (u2 (nR0 (u2 (nR0 (u2 (nR0 (u2 (nR0 (u2 (nR0 (u2 (nR0 (u2 (nR0 (u2 (nR0 (u2 (nR0 (u2 (nR0 R n) b 1 (some n)) (n + 1)) b 2 (some (n + 1))) (n + 2)) b 3 (some (n + 2))) (n + 3)) b 4 (some (n + 3))) (n + 4)) b 5 (some (n + 4))) (n + 5)) b 6 (some (n + 5))) (n + 6)) b 8 (some (n + 6))) (n + 7)) b 13 (some (n + 7))) (n + 8)) b 14 (some (n + 8))) (n + 9)) b 15 (some (n + 9))) (n + 10)) b 20 (some (n + 10))) (n + 11)) b 21 (some (n + 11))) (n + 12)) b 22 (some (n + 12))) (n + 13)) b 23 (some (n + 13))) (n + 14)) b 24 (some (n + 14))) (n + 15)) b 25 (some (n + 15))) (n + 16)) b 26 (some (n + 16))) (n + 17)) b 27 (some (n + 17))) (n + 18)) b 28 (some (n + 18))) (n + 19)) b 33 (some (n + 19))) (n + 20)) b 34 (some (n + 20))) (n + 21)) b 35 (some (n + 21))) (n + 22)) b 39 (some (n + 22))) (n + 23)) b 40 (some (n + 23))) (n + 24)) b 41 (some (n + 24))) (n + 25))) b 40 = some (n + 23) := by rw [nR0_o (neB hbn)]; exact hr55
  clear hn51 hs52 hs53 hr55
  refine pw_putF 8 h hin d_X8_init_225 fd_RX8_97 hs57 rfl rfl rfl (fun _ => rfl) (fun _ => rfl) (by rw [hn56]; exact (Nat.add_lt_add_left (by decide) n)) ?_
  have hr60 : ((u2 (nR0 (u2 (nR0 (u2 (nR0 (u2 (nR0 (u2 (nR0 (u2 (nR0 (u2 (nR0 (u2 (nR0 (u2 (nR0 (u2 (nR0 (u2 (nR0 (u2 (nR0 (u2 (nR0 (u2 (nR0 (u2 (nR0 (u2 (nR0 (u2 (nR0 (u2 (nR0 (u2 (nR0 (u2 (nR0 (u2 (nR0 (u2 (nR0 (u2 (nR0 (u2 (nR0 (u2 (nR0 (u2 (nR0 R n) b 1 (some n)) (n + 1)) b 2 (some (n + 1))) (n + 2)) b 3 (some (n + 2))) (n + 3)) b 4 (some (n + 3))) (n + 4)) b 5 (some (n + 4))) (n + 5)) b 6 (some (n + 5))) (n + 6)) b 8 (some (n + 6))) (n + 7)) b 13 (some (n + 7))) (n + 8)) b 14 (some (n + 8))) (n + 9)) b 15 (some (n + 9))) (n + 10)) b 20 (some (n + 10))) (n + 11)) b 21 (some (n + 11))) (n + 12)) b 22 (some (n + 12))) (n + 13)) b 23 (some (n + 13))) (n + 14)) b 24 (some (n + 14))) (n + 15)) b 25 (some (n + 15))) (n + 16)) b 26 (some (n + 16))) (n + 17)) b 27 (some (n + 17))) (n + 18)) b 28 (some (n + 18))) (n + 19)) b 33 (some (n + 19))) (n + 20)) b 34 (some (n + 20))) (n + 21)) b 35 (some (n + 21))) (n + 22)) b 39 (some (n + 22))) (n + 23)) b 40 (some (n + 23))) (n + 24)) b 41 (some (n + 24))) (n + 25)) b 42 (some (n + 25)))) b 40 = some (n + 23) := by rw [u2_n2 (by decide)]; exact hr59
  clear hr59
  refine pw_aload_n h 0 d_X8_init_228 rfl ?_
  refine pw_bipush (x := 13) h d_X8_init_229 (by decide) ?_
  refine pw_newI (N := 13) h d_X8_init_231 (by decide) rfl (by decide) hn56 (ltA hmx (by decide)) (rok_r (ltB hbn) rok_nil) (rokl_r (ltB hbn) rokl_nil) (by decide) (by decide) ?_
  have hn61 : ((((((((((((((((((((((((((((sh ++ [kI 6]) ++ [kI 6]) ++ [kI 6]) ++ [kI 6]) ++ [kI 13]) ++ [kI 52]) ++ [kI 120]) ++ [kI 6]) ++ [kI 6]) ++ [kI 13]) ++ [kI 7]) ++ [kI 7]) ++ [kI 13]) ++ [kL 7]) ++ [kL 7]) ++ [kL 7]) ++ [kL 7]) ++ [kL 8]) ++ [kL 9]) ++ [kI 7]) ++ [kI 7]) ++ [kI 6]) ++ [kI 6]) ++ [kI 4]) ++ [kI 4]) ++ [kI 52]) ++ [kI 13])).length = (n + 27) := len_app hn56
  have hs62 : ((((((((((((((((((((((((((((sh ++ [kI 6]) ++ [kI 6]) ++ [kI 6]) ++ [kI 6]) ++ [kI 13]) ++ [kI 52]) ++ [kI 120]) ++ [kI 6]) ++ [kI 6]) ++ [kI 13]) ++ [kI 7]) ++ [kI 7]) ++ [kI 13]) ++ [kL 7]) ++ [kL 7]) ++ [kL 7]) ++ [kL 7]) ++ [kL 8]) ++ [kL 9]) ++ [kI 7]) ++ [kI 7]) ++ [kI 6]) ++ [kI 6]) ++ [kI 4]) ++ [kI 4]) ++ [kI 52]) ++ [kI 13]))[b]? = some (kO 8) := get_app hs57
  have hs63 : ((((((((((((((((((((((((((((sh ++ [kI 6]) ++ [kI 6]) ++ [kI 6]) ++ [kI 6]) ++ [kI 13]) ++ [kI 52]) ++ [kI 120]) ++ [kI 6]) ++ [kI 6]) ++ [kI 13]) ++ [kI 7]) ++ [kI 7]) ++ [kI 13]) ++ [kL 7]) ++ [kL 7]) ++ [kL 7]) ++ [kL 7]) ++ [kL 8]) ++ [kL 9]) ++ [kI 7]) ++ [kI 7]) ++ [kI 6]) ++ [kI 6]) ++ [kI 4]) ++ [kI 4]) ++ [kI 52]) ++ [kI 13]))[(n + 23)]? = some (kI 4) := get_app hs58
  have hr64 : ((nR0 (u2 (nR0 (u2 (nR0 (u2 (nR0 (u2 (nR0 (u2 (nR0 (u2 (nR0 (u2 (nR0 (u2 (nR0 (u2 (nR0 (u2 (nR0 (u2 (nR0 (u2 (nR0 (u2 (nR0 (u2 (nR0 (u2 (nR0 (u2 (nR0 (u2 (nR0 (u2 (nR0 (u2 (nR0 (u2 (nR0 (u2 (nR0 (u2 (nR0 (u2 (nR0 (u2 (nR0 (u2 (nR0 (u2 (nR0 R n) b 1 (some n)) (n + 1)) b 2 (some (n + 1))) (n + 2)) b 3 (some (n + 2))) (n + 3)) b 4 (some (n + 3))) (n + 4)) b 5 (some (n + 4))) (n + 5)) b 6 (some (n + 5))) (n + 6)) b 8 (some (n + 6))) (n + 7)) b 13 (some (n + 7))) (n + 8)) b 14 (some (n + 8))) (n + 9)) b 15 (some (n + 9))) (n + 10)) b 20 (some (n + 10))) (n + 11)) b 21 (some (n + 11))) (n + 12)) b 22 (some (n + 12))) (n + 13)) b 23 (some (n + 13))) (n + 14)) b 24 (some (n + 14))) (n + 15)) b 25 (some (n + 15))) (n + 16)) b 26 (some (n + 16))) (n + 17)) b 27 (some (n + 17))) (n + 18)) b 28 (some (n + 18))) (n + 19)) b 33 (some (n + 19))) (n + 20)) b 34 (some (n + 20))) (n + 21)) b 35 (some (n + 21))) (n + 22)) b 39 (some (n + 22))) (n + 23)) b 40 (some (n + 23))) (n + 24)) b 41 (some (n + 24))) (n + 25)) b 42 (some (n + 25))) (n + 26))) b 40 = some (n + 23) := by rw [nR0_o (neB hbn)]; exact hr60
  clear hn56 hs57 hs58 hr60
  refine pw_putF 8 h hin d_X8_init_233 fd_RX8_100 hs62 rfl rfl rfl (fun _ => rfl) (fun _ => rfl) (by rw [hn61]; exact (Nat.add_lt_add_left (by decide) n)) ?_
  have hr65 : ((u2 (nR0 (u2 (nR0 (u2 (nR0 (u2 (nR0 (u2 (nR0 (u2 (nR0 (u2 (nR0 (u2 (nR0 (u2 (nR0 (u2 (nR0 (u2 (nR0 (u2 (nR0 (u2 (nR0 (u2 (nR0 (u2 (nR0 (u2 (nR0 (u2 (nR0 (u2 (nR0 (u2 (nR0 (u2 (nR0 (u2 (nR0 (u2 (nR0 (u2 (nR0 (u2 (nR0 (u2 (nR0 (u2 (nR0 (u2 (nR0 R n) b 1 (some n)) (n + 1)) b 2 (some (n + 1))) (n + 2)) b 3 (some (n + 2))) (n + 3)) b 4 (some (n + 3))) (n + 4)) b 5 (some (n + 4))) (n + 5)) b 6 (some (n + 5))) (n + 6)) b 8 (some (n + 6))) (n + 7)) b 13 (some (n + 7))) (n + 8)) b 14 (some (n + 8))) (n + 9)) b 15 (some (n + 9))) (n + 10)) b 20 (some (n + 10))) (n + 11)) b 21 (some (n + 11))) (n + 12)) b 22 (some (n + 12))) (n + 13)) b 23 (some (n + 13))) (n + 14)) b 24 (some (n + 14))) (n + 15)) b 25 (some (n + 15))) (n + 16)) b 26 (some (n + 16))) (n + 17)) b 27 (some (n + 17))) (n + 18)) b 28 (some (n + 18))) (n + 19)) b 33 (some (n + 19))) (n + 20)) b 34 (some (n + 20))) (n + 21)) b 35 (some (n + 21))) (n + 22)) b 39 (some (n + 22))) (n + 23)) b 40 (some (n + 23))) (n + 24)) b 41 (some (n + 24))) (n + 25)) b 42 (some (n + 25))) (n + 26)) b 43 (some (n + 26)))) b 40 = some (n + 23) := by rw [u2_n2 (by decide)]; exact hr64
  clear hr64
  refine pw_iconst (x := 0) h d_X8_init_236 (by decide) ?_
  refine pw_istore_n (lv' := [(1, .int 0), (0, .ref b)]) h d_X8_init_237 rfl _ hml (by decide) rfl ?_
  refine pw_iload_n h 0 d_X8_init_238 rfl ?_
  refine pw_iconst (x := 4) h d_X8_init_239 (by decide) ?_
  refine pw_icmp_ge 256 h d_X8_init_240 (by decide) (fun c_ => absurd c_ (by decide)) (fun c_ => ?_)
  refine pw_aload_n h 1 d_X8_init_243 rfl ?_
  refine pw_getR (j := (n + 23)) 8 h d_X8_init_244 fd_RX8_91 hs62 rfl hr65 ?_
  refine pw_iload_n h 0 d_X8_init_247 rfl ?_
  refine pw_iconst (x := (-1)) h d_X8_init_248 (by decide) ?_
  refine pw_iast (j := 0) h d_X8_init_249 hs63 (px_ix_nI (j := 0) (by decide) (by decide)) ?_
  refine pw_iinc (lv' := [(1, .int 1), (0, .ref b)]) 1 h d_X8_init_250 0 rfl (by decide) _ hml (by decide) rfl ?_
  refine pw_goto 238 h d_X8_init_253 (by decide) ?_
  refine pw_iload_n h 0 d_X8_init_238 rfl ?_
  refine pw_iconst (x := 4) h d_X8_init_239 (by decide) ?_
  refine pw_icmp_ge 256 h d_X8_init_240 (by decide) (fun c_ => absurd c_ (by decide)) (fun c_ => ?_)
  refine pw_aload_n h 1 d_X8_init_243 rfl ?_
  refine pw_getR (j := (n + 23)) 8 h d_X8_init_244 fd_RX8_91 hs62 rfl hr65 ?_
  refine pw_iload_n h 0 d_X8_init_247 rfl ?_
  refine pw_iconst (x := (-1)) h d_X8_init_248 (by decide) ?_
  refine pw_iast (j := 1) h d_X8_init_249 hs63 (px_ix_nI (j := 1) (by decide) (by decide)) ?_
  refine pw_iinc (lv' := [(1, .int 2), (0, .ref b)]) 2 h d_X8_init_250 0 rfl (by decide) _ hml (by decide) rfl ?_
  refine pw_goto 238 h d_X8_init_253 (by decide) ?_
  refine pw_iload_n h 0 d_X8_init_238 rfl ?_
  refine pw_iconst (x := 4) h d_X8_init_239 (by decide) ?_
  refine pw_icmp_ge 256 h d_X8_init_240 (by decide) (fun c_ => absurd c_ (by decide)) (fun c_ => ?_)
  refine pw_aload_n h 1 d_X8_init_243 rfl ?_
  refine pw_getR (j := (n + 23)) 8 h d_X8_init_244 fd_RX8_91 hs62 rfl hr65 ?_
  refine pw_iload_n h 0 d_X8_init_247 rfl ?_
  refine pw_iconst (x := (-1)) h d_X8_init_248 (by decide) ?_
  refine pw_iast (j := 2) h d_X8_init_249 hs63 (px_ix_nI (j := 2) (by decide) (by decide)) ?_
  refine pw_iinc (lv' := [(1, .int 3), (0, .ref b)]) 3 h d_X8_init_250 0 rfl (by decide) _ hml (by decide) rfl ?_
  refine pw_goto 238 h d_X8_init_253 (by decide) ?_
  refine pw_iload_n h 0 d_X8_init_238 rfl ?_
  refine pw_iconst (x := 4) h d_X8_init_239 (by decide) ?_
  refine pw_icmp_ge 256 h d_X8_init_240 (by decide) (fun c_ => absurd c_ (by decide)) (fun c_ => ?_)
  refine pw_aload_n h 1 d_X8_init_243 rfl ?_
  refine pw_getR (j := (n + 23)) 8 h d_X8_init_244 fd_RX8_91 hs62 rfl hr65 ?_
  refine pw_iload_n h 0 d_X8_init_247 rfl ?_
  refine pw_iconst (x := (-1)) h d_X8_init_248 (by decide) ?_
  refine pw_iast (j := 3) h d_X8_init_249 hs63 (px_ix_nI (j := 3) (by decide) (by decide)) ?_
  refine pw_iinc (lv' := [(1, .int 4), (0, .ref b)]) 4 h d_X8_init_250 0 rfl (by decide) _ hml (by decide) rfl ?_
  refine pw_goto 238 h d_X8_init_253 (by decide) ?_
  refine pw_iload_n h 0 d_X8_init_238 rfl ?_
  refine pw_iconst (x := 4) h d_X8_init_239 (by decide) ?_
  refine pw_icmp_ge 256 h d_X8_init_240 (by decide) (fun c_ => ?_) (fun c_ => absurd (by decide) c_)
  refine pw_vret h hr d_X8_init_256 (by decide) (by decide) ?_
  exact ⟨rfl, rfl, rfl, rfl, rfl⟩
