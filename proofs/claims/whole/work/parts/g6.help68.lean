/-! runs and WHIRL of the model -/
theorem wearQ_eq (z : Int32) : wearQ z = z / 10000 := by
  unfold wearQ
  rw [if_neg (by decide)]
  apply Int32.toInt_inj.mp
  have h1 : (10000 : Int64).toInt = 10000 := rfl
  have h2 : (10000 : Int32).toInt = 10000 := rfl
  rw [Int64.toInt_toInt32, Int64.toInt_div_of_ne_right _ _ (by decide), Int32.toInt_div_of_ne_right _ _ (by decide), Int32.toInt_toInt64, h1, h2]
  have hlt := Int32.toInt_lt z
  have hle := Int32.le_toInt z
  have hab : (z.toInt.tdiv 10000).natAbs ≤ z.toInt.natAbs := by
    rw [Int.natAbs_tdiv]
    exact Nat.div_le_self _ _
  by_cases c : z.toInt = -2147483648
  · rw [c]
    decide
  · rw [Int.bmod_eq_of_le] <;> omega
theorem wearW_eq {z : Int32} : z - z / 10000 * 10000 = wearW z := by
  unfold wearW
  rw [wearQ_eq]
theorem wearO_t {o z : Int32} (h : -50 ≤ o - z / 10000) : o - z / 10000 = wearO o z := by
  unfold wearO
  rw [wearQ_eq]
  by_cases c : (-50 : Int32) < o - z / 10000
  · rw [if_pos c]
  · rw [if_neg c]
    apply Int32.toInt_inj.mp
    rw [Int32.lt_iff_toInt_lt] at c
    rw [Int32.le_iff_toInt_le] at h
    omega
theorem wearO_f {o z : Int32} (h : ¬ -50 ≤ o - z / 10000) : -50 = wearO o z := by
  unfold wearO
  rw [wearQ_eq, if_neg (fun c => h (by
    rw [Int32.lt_iff_toInt_lt] at c
    rw [Int32.le_iff_toInt_le]
    omega))]
def runM (I : IM) (m : Nat) (hr : Nat → Int32) (k : Nat) : IM := fun a j => if a = m + 3 ∧ j < k then wearW (I (m + 3) j + hr j) else if a = m + 2 ∧ j < k then wearO (I (m + 2) j) (I (m + 3) j + hr j) else I a j
def lessM (I : IM) (m : Nat) (hr : Nat → Int32) (b : Nat) : Bool := decide (wearO (I (m + 2) b) (I (m + 3) b + hr b) < I (m + 2) b)
theorem runM_0 {I : IM} {m : Nat} {hr : Nat → Int32} : I = runM I m hr 0 := by
  funext a j
  unfold runM
  rw [if_neg (by omega), if_neg (by omega)]
theorem runM_o {I : IM} {m : Nat} {hr : Nat → Int32} {k a j : Nat} (h1 : a ≠ m + 3) (h2 : a ≠ m + 2) : runM I m hr k a j = I a j := by
  unfold runM
  rw [if_neg (by omega), if_neg (by omega)]
theorem runM_k {I : IM} {m : Nat} {hr : Nat → Int32} {k a : Nat} : runM I m hr k a k = I a k := by
  unfold runM
  rw [if_neg (by omega), if_neg (by omega)]
theorem runM_s {I I3 I4 I5 : IM} {m : Nat} {hr : Nat → Int32} {k : Nat} {w o w2 : Int32} (h3 : I3 = runM I m hr k) (e4 : I4 = u2 I3 (m + 3) k w) (hw : w = I (m + 3) k + hr k) (e5 : I5 = u2 I4 (m + 2) k o) (ho : o = wearO (I (m + 2) k) w) (hw2 : w2 = wearW w) : u2 I5 (m + 3) k w2 = runM I m hr (k + 1) := by
  subst e5; subst e4; subst h3; subst hw2; subst ho; subst hw
  funext a j
  by_cases c3 : a = m + 3
  · subst c3
    by_cases cj : j = k
    · subst cj
      rw [u2_s]
      unfold runM
      rw [if_pos ⟨rfl, by omega⟩]
    · rw [u2_n2 cj, u2_n1 (by omega), u2_n2 cj]
      unfold runM
      have e : (j < k + 1) = (j < k) := propext ⟨fun _ => by omega, fun _ => by omega⟩
      simp only [e]
  · rw [u2_n1 c3]
    by_cases c2 : a = m + 2
    · subst c2
      by_cases cj : j = k
      · subst cj
        rw [u2_s]
        unfold runM
        rw [if_neg (by omega), if_pos ⟨rfl, by omega⟩]
      · rw [u2_n2 cj, u2_n1 (by omega)]
        unfold runM
        have e : (j < k + 1) = (j < k) := propext ⟨fun _ => by omega, fun _ => by omega⟩
        simp only [e]
    · rw [u2_n1 c2, u2_n1 c3, runM_o c3 c2, runM_o c3 c2]
theorem runM_MI {I I2 : IM} {m k : Nat} {hr : Nat → Int32} (f : frMI m I I2) : frMI m (runM I m hr k) (runM I2 m hr k) := fun a j c1 c2 c3 c4 c5 c6 => by
  unfold runM
  rw [f (m + 3) j (by omega) (by omega) (by omega) (by omega) (by omega) (by omega), f (m + 2) j (by omega) (by omega) (by omega) (by omega) (by omega) (by omega), f a j c1 c2 c3 c4 c5 c6]
theorem lessM_MI {I I2 : IM} {m : Nat} {hr : Nat → Int32} (f : frMI m I I2) : lessM I2 m hr = lessM I m hr := by
  funext b
  unfold lessM
  rw [f (m + 3) b (by omega) (by omega) (by omega) (by omega) (by omega) (by omega), f (m + 2) b (by omega) (by omega) (by omega) (by omega) (by omega) (by omega)]
theorem SolM_fr {I I' : IM} {m N : Nat} {pl : Nat → Nat} {h w : Nat → Rat} {F : Rat} (hS : SolM I m N pl h w F) (f : ∀ a j, a ≠ m + 3 → a ≠ m + 2 → I' a j = I a j) : SolM I' m N pl h w F := by
  obtain ⟨a1, a2, a3, a4, a5⟩ := hS
  refine ⟨?_, fun k hk => ?_, fun k hk => ?_, fun p hp => ?_, ?_⟩
  · rw [f m 19 (by omega) (by omega)]; exact a1
  · rw [f _ _ (by omega) (by omega)]; exact a2 k hk
  · rw [f _ _ (by omega) (by omega)]; exact a3 k hk
  · rw [f _ _ (by omega) (by omega)]; exact a4 p hp
  · rw [f m 7 (by omega) (by omega)]; exact a5
def RunM (sh : Sh) (I : IM) (L : LM) (R : RM) (m : Nat) (A : LA) (v : Int32) : PPost := fun ret sh' I' L' R' => sh' = sh ∧ R' = R ∧ frML m L L' ∧ ifA (isW v 1 1000) (rsA A 0 (fun c => ret = some (.int (nI (cntS (lessM I m (hrA A (setA A c) v)) (aN A)))) ∧ frMI m (runM I m (hrA A (setA A c) v) (aN A)) I') (ret = some (.int (-2)) ∧ frMI m I I')) (ret = some (.int (-1)) ∧ frMI m I I')
/-- a load, cut, times hours -/
theorem hr_M {A : LA} {s : Nat → Bool} {b : Nat} {v : Int32} {x y : Int64} (h : RF x y (qLd A 0 s b)) : v * (x / y).toInt32 = hrA A s v b := by
  unfold hrA
  rw [Int32.mul_comm]
  congr 1
  apply Int32.toInt_inj.mp
  obtain ⟨_, hp⟩ := RF_mul h
  rw [Int64.toInt_toInt32, Int32.toInt_ofInt, Int64.toInt_div_of_ne_right _ _ (fun e => by
    rw [e] at hp
    exact absurd hp (by decide)), h.1, h.2]
  rfl
theorem RF_ne {x y : Int64} {q : Rat} (h : RF x y q) : ¬ y = 0 := fun e => by
  have := (RF_mul h).2
  rw [e, zL] at this
  omega
theorem less_s {I : IM} {m k : Nat} {hr : Nat → Int32} {y o : Int32} (hy : y = nI (cntS (lessM I m hr) k)) (ho : o = wearO (I (m + 2) k) (I (m + 3) k + hr k)) : (o < I (m + 2) k → y + 1 = nI (cntS (lessM I m hr) (k + 1))) ∧ (¬ o < I (m + 2) k → y + 0 = nI (cntS (lessM I m hr) (k + 1))) := by
  subst hy; subst ho
  constructor
  · intro c
    simp only [cntS]
    rw [if_pos (show lessM I m hr k = true from decide_eq_true c), nI_1]
  · intro c
    simp only [cntS]
    have e : ¬ lessM I m hr k = true := fun q => c (of_decide_eq_true q)
    rw [if_neg e]
    exact Int32.add_zero _
/-- WHIRL's depth -/
theorem dep_M {L : LM} {m n D f x : Nat} {pl : Nat → Nat} {h w : Nat → Rat} {F : Rat} (hB : okB pl h w F 0 n) (hDQ : DQ (spR pl n) n = (D : Rat)) (hD : 0 < D) (hF : F = (f : Rat)) (h1 : 1 ≤ f) (h2 : f ≤ 20) (hx : x < 13) (hp : PF L m (D * (6 * f) * spP pl n 0) (heiQ pl h w F n f x)) : -1000 * L m 17 / L m 18 = depQ (tzP pl h w F n x / (6 * F * spR pl n 0)) := by
  obtain ⟨d1, d2, d3⟩ := D4_ok hB.1 hDQ hD h1 h2
  have hne := RF_ne hp.1
  rw [hei_eq hB.1 hF h1] at hp
  have hq : inQ (tzP pl h w F n x / (6 * F * spR pl n 0) * ((D * (6 * f) * spP pl n 0 : Nat) : Rat)) 9000000000000000 := by
    rw [q_D3 hB.1 hDQ hF h1]
    exact inQ_le (ex_hei0 hB rfl hx) (by grind)
  have hn := num_inP hp.1 hp.2 d1 hq
  obtain ⟨e, hb⟩ := RF_mul hp.1
  have := cut_dep e hb hn
  unfold cutL at this
  rw [if_neg hne] at this
  exact this
theorem wh_s {W : Nat → Int32} {y : Nat → Int64} {p : Nat} {a b z : Int64} (ha : a = whO W y p) (hb : b = whT W y p) (hz : z = y p) (h : 0 < W p) : a + (W p).toInt64 * z = whO W y (p + 1) ∧ b + (W p).toInt64 * z * z = whT W y (p + 1) := by
  subst ha; subst hb; subst hz
  simp only [whO, whT, if_pos h]
  exact ⟨trivial, trivial⟩
theorem wh_n {W : Nat → Int32} {y : Nat → Int64} {p : Nat} {a b : Int64} (ha : a = whO W y p) (hb : b = whT W y p) (h : ¬ 0 < W p) : a = whO W y (p + 1) ∧ b = whT W y (p + 1) := by
  subst ha; subst hb
  simp only [whO, whT, if_neg h]
  exact ⟨trivial, trivial⟩
theorem wh_e0 {W : Nat → Int32} {y : Nat → Int64} (h : whT W y 13 = 0) : (0 : Int32) = whA W y := by
  unfold whA cutL
  rw [if_pos h]
  rfl
theorem wh_e1 {W : Nat → Int32} {y : Nat → Int64} (h : ¬ whT W y 13 = 0) : (1000000 * whO W y 13 / whT W y 13).toInt32 = whA W y := by
  unfold whA cutL
  rw [if_neg h]
