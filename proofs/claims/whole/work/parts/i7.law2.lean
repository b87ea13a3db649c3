/-! the law's loop -/
theorem and31 (x : Int32) : ∃ c : Nat, c < 32 ∧ (x &&& 31).toInt = (c : Int) := by
  have h : (x.toBitVec &&& 31#32).toNat < 32 := by
    rw [BitVec.toNat_and]
    exact Nat.lt_of_le_of_lt Nat.and_le_right (by decide)
  refine ⟨(x.toBitVec &&& 31#32).toNat, h, ?_⟩
  show (x.toBitVec &&& 31#32).toInt = _
  exact BitVec.toInt_eq_toNat_of_lt (by omega)
theorem law_ex {LL j : Nat} (hL : LL ≤ 3072) (hj : j ≤ LL) (c : ¬ nI LL - 6 < nI j) : j + 6 ≤ LL := by
  have e6 : (6 : Int32).toInt = 6 := rfl
  rw [Int32.lt_iff_toInt_lt, Int32.toInt_sub, e6, nI_toInt (by omega), nI_toInt (by omega), Int.bmod_eq_of_le (by omega) (by omega)] at c
  omega
section LAWL
variable {X : PX} {kc ks k n b LL : Nat} {scr : Nat → Int32} {sh : Sh}
theorem law_sw {j c : Nat} {I : IM} {L : LM} {R : RM} (h : PXok X RL cL_law 13 kc ks) (hs : PXs X b LL scr) (hL : LL ≤ 3072) (hj : j + 6 ≤ LL) (hk : k ≤ kc) (hn : n ≤ ks) (hJ : JJ sh I L R) (kk : ∀ (I2 : IM) (L2 : LM) (R2 : RM), JJ sh I2 L2 R2 → PW X 1261 (lwL j) [] sh I2 L2 R2 k n) (x : Int32) (hc : c < 32) (hx : x.toInt = (c : Int)) : PW X 33 (lwL j) [.int x] sh I L R k n := by
  match c, hc with
  | 0, _ => exact pw_tableIn (off := 139) 172 h d_L_law_33 (by rw [hx]; decide) (by rw [hx]; decide) (by rw [hx]; rfl) (by decide) (law_0 h hs hL hj hk hn hJ kk)
  | 1, _ => exact pw_tableIn (off := 172) 205 h d_L_law_33 (by rw [hx]; decide) (by rw [hx]; decide) (by rw [hx]; rfl) (by decide) (law_1 h hs hL hj hk hn hJ kk)
  | 2, _ => exact pw_tableIn (off := 195) 228 h d_L_law_33 (by rw [hx]; decide) (by rw [hx]; decide) (by rw [hx]; rfl) (by decide) (law_2 h hs hL hj hk hn hJ kk)
  | 3, _ => exact pw_tableIn (off := 228) 261 h d_L_law_33 (by rw [hx]; decide) (by rw [hx]; decide) (by rw [hx]; rfl) (by decide) (law_3 h hs hL hj hk hn hJ kk)
  | 4, _ => exact pw_tableIn (off := 261) 294 h d_L_law_33 (by rw [hx]; decide) (by rw [hx]; decide) (by rw [hx]; rfl) (by decide) (law_4 h hs hL hj hk hn hJ kk)
  | 5, _ => exact pw_tableIn (off := 284) 317 h d_L_law_33 (by rw [hx]; decide) (by rw [hx]; decide) (by rw [hx]; rfl) (by decide) (law_5 h hs hL hj hk hn hJ kk)
  | 6, _ => exact pw_tableIn (off := 327) 360 h d_L_law_33 (by rw [hx]; decide) (by rw [hx]; decide) (by rw [hx]; rfl) (by decide) (law_6 h hs hL hj hk hn hJ kk)
  | 7, _ => exact pw_tableIn (off := 390) 423 h d_L_law_33 (by rw [hx]; decide) (by rw [hx]; decide) (by rw [hx]; rfl) (by decide) (law_7 h hs hL hj hk hn hJ kk)
  | 8, _ => exact pw_tableIn (off := 453) 486 h d_L_law_33 (by rw [hx]; decide) (by rw [hx]; decide) (by rw [hx]; rfl) (by decide) (law_8 h hs hL hj hk hn hJ kk)
  | 9, _ => exact pw_tableIn (off := 466) 499 h d_L_law_33 (by rw [hx]; decide) (by rw [hx]; decide) (by rw [hx]; rfl) (by decide) (law_9 h hs hL hj hk hn hJ kk)
  | 10, _ => exact pw_tableIn (off := 499) 532 h d_L_law_33 (by rw [hx]; decide) (by rw [hx]; decide) (by rw [hx]; rfl) (by decide) (law_10 h hs hL hj hk hn hJ kk)
  | 11, _ => exact pw_tableIn (off := 522) 555 h d_L_law_33 (by rw [hx]; decide) (by rw [hx]; decide) (by rw [hx]; rfl) (by decide) (law_11 h hs hL hj hk hn hJ kk)
  | 12, _ => exact pw_tableIn (off := 566) 599 h d_L_law_33 (by rw [hx]; decide) (by rw [hx]; decide) (by rw [hx]; rfl) (by decide) (law_12 h hs hL hj hk hn hJ kk)
  | 13, _ => exact pw_tableIn (off := 589) 622 h d_L_law_33 (by rw [hx]; decide) (by rw [hx]; decide) (by rw [hx]; rfl) (by decide) (law_13 h hs hL hj hk hn hJ kk)
  | 14, _ => exact pw_tableIn (off := 633) 666 h d_L_law_33 (by rw [hx]; decide) (by rw [hx]; decide) (by rw [hx]; rfl) (by decide) (law_14 h hs hL hj hk hn hJ kk)
  | 15, _ => exact pw_tableIn (off := 677) 710 h d_L_law_33 (by rw [hx]; decide) (by rw [hx]; decide) (by rw [hx]; rfl) (by decide) (law_15 h hs hL hj hk hn hJ kk)
  | 16, _ => exact pw_tableIn (off := 721) 754 h d_L_law_33 (by rw [hx]; decide) (by rw [hx]; decide) (by rw [hx]; rfl) (by decide) (law_16 h hs hL hj hk hn hJ kk)
  | 17, _ => exact pw_tableIn (off := 775) 808 h d_L_law_33 (by rw [hx]; decide) (by rw [hx]; decide) (by rw [hx]; rfl) (by decide) (law_17 h hs hL hj hk hn hJ kk)
  | 18, _ => exact pw_tableIn (off := 829) 862 h d_L_law_33 (by rw [hx]; decide) (by rw [hx]; decide) (by rw [hx]; rfl) (by decide) (law_18 h hs hL hj hk hn hJ kk)
  | 19, _ => exact pw_tableIn (off := 862) 895 h d_L_law_33 (by rw [hx]; decide) (by rw [hx]; decide) (by rw [hx]; rfl) (by decide) (law_19 h hs hL hj hk hn hJ kk)
  | 20, _ => exact pw_tableIn (off := 885) 918 h d_L_law_33 (by rw [hx]; decide) (by rw [hx]; decide) (by rw [hx]; rfl) (by decide) (law_20 h hs hL hj hk hn hJ kk)
  | 21, _ => exact pw_tableIn (off := 908) 941 h d_L_law_33 (by rw [hx]; decide) (by rw [hx]; decide) (by rw [hx]; rfl) (by decide) (law_21 h hs hL hj hk hn hJ kk)
  | 22, _ => exact pw_tableIn (off := 941) 974 h d_L_law_33 (by rw [hx]; decide) (by rw [hx]; decide) (by rw [hx]; rfl) (by decide) (law_22 h hs hL hj hk hn hJ kk)
  | 23, _ => exact pw_tableIn (off := 974) 1007 h d_L_law_33 (by rw [hx]; decide) (by rw [hx]; decide) (by rw [hx]; rfl) (by decide) (law_23 h hs hL hj hk hn hJ kk)
  | 24, _ => exact pw_tableIn (off := 987) 1020 h d_L_law_33 (by rw [hx]; decide) (by rw [hx]; decide) (by rw [hx]; rfl) (by decide) (law_24 h hs hL hj hk hn hJ kk)
  | 25, _ => exact pw_tableIn (off := 1010) 1043 h d_L_law_33 (by rw [hx]; decide) (by rw [hx]; decide) (by rw [hx]; rfl) (by decide) (law_25 h hs hL hj hk hn hJ kk)
  | 26, _ => exact pw_tableIn (off := 1033) 1066 h d_L_law_33 (by rw [hx]; decide) (by rw [hx]; decide) (by rw [hx]; rfl) (by decide) (law_26 h hs hL hj hk hn hJ kk)
  | 27, _ => exact pw_tableIn (off := 1046) 1079 h d_L_law_33 (by rw [hx]; decide) (by rw [hx]; decide) (by rw [hx]; rfl) (by decide) (law_27 h hs hL hj hk hn hJ kk)
  | 28, _ => exact pw_tableIn (off := 1089) 1122 h d_L_law_33 (by rw [hx]; decide) (by rw [hx]; decide) (by rw [hx]; rfl) (by decide) (law_28 h hs hL hj hk hn hJ kk)
  | 29, _ => exact pw_tableIn (off := 1112) 1145 h d_L_law_33 (by rw [hx]; decide) (by rw [hx]; decide) (by rw [hx]; rfl) (by decide) (law_29 h hs hL hj hk hn hJ kk)
  | 30, _ => exact pw_tableIn (off := 1165) 1198 h d_L_law_33 (by rw [hx]; decide) (by rw [hx]; decide) (by rw [hx]; rfl) (by decide) (law_30 h hs hL hj hk hn hJ kk)
  | 31, _ => exact pw_tableOut 1261 h d_L_law_33 (Or.inr (by rw [hx]; decide)) (by decide) (kk _ _ _ hJ)
  | c + 32, hc => exact absurd hc (by omega)
theorem law_loop (h : PXok X RL cL_law 13 kc ks) (hs : PXs X b LL scr) (hL : LL ≤ 3072) (hml : (xc X).maxLocals = 4) (hk : k ≤ kc) (hn : n ≤ ks) (kE : ∀ (j : Nat) (I : IM) (L : LM) (R : RM), PW X 1267 (lwL j) [] sh I L R k n) :
    ∀ (m j : Nat) (I : IM) (L : LM) (R : RM), LL - j ≤ m → j ≤ LL → JJ sh I L R → PW X 18 (lwL j) [] sh I L R k n := by
  intro m
  induction m with
  | zero =>
    intro j I L R hm hj hJ
    refine pw_iload_n h 0 d_L_law_18 rfl ?_
    refine pw_aload_n h 3 d_L_law_19 rfl ?_
    refine pw_slen h hs d_L_law_20 ?_
    refine pw_bipush (x := 6) h d_L_law_21 (by decide) ?_
    refine pw_isub h d_L_law_23 ?_
    refine pw_icmp_gt 1267 h d_L_law_24 (by decide) (fun _ => kE j I L R) (fun c => ?_)
    exfalso
    have := law_ex hL hj c
    omega
  | succ m ih =>
    intro j I L R hm hj hJ
    refine pw_iload_n h 0 d_L_law_18 rfl ?_
    refine pw_aload_n h 3 d_L_law_19 rfl ?_
    refine pw_slen h hs d_L_law_20 ?_
    refine pw_bipush (x := 6) h d_L_law_21 (by decide) ?_
    refine pw_isub h d_L_law_23 ?_
    refine pw_icmp_gt 1267 h d_L_law_24 (by decide) (fun _ => kE j I L R) (fun c => ?_)
    have hj6 := law_ex hL hj c
    refine pw_aload_n h 3 d_L_law_27 rfl ?_
    refine pw_iload_n h 0 d_L_law_28 rfl ?_
    refine pw_sld h hs d_L_law_29 (px_ix_nI (show j < LL by omega) (by omega)) ?_
    refine pw_bipush (x := 31) h d_L_law_30 (by decide) ?_
    refine pw_iand h d_L_law_32 ?_
    obtain ⟨c, hc, hx⟩ := and31 (scr j)
    refine law_sw h hs hL hj6 hk hn hJ (fun I2 L2 R2 hJ2 => ?_) _ hc hx
    refine pw_iinc (lv' := lwL (j + 6)) (nI (j + 6)) h d_L_law_1261 0 rfl (nI_add j 6) _ hml (by decide) rfl ?_
    refine pw_goto 18 h d_L_law_1264 (by decide) ?_
    exact ih (j + 6) I2 L2 R2 (by omega) (by omega) hJ2
end LAWL
