/-! class and model side by side: what holds between two calls -/
def WR (I : IM) (n : Nat) : Prop := ∀ k, k < n → I 4 k = I 84 k ∧ I 5 k = I 85 k ∧ 0 ≤ (I 4 k).toInt ∧ (I 4 k).toInt ≤ 9999
def JA (I : IM) (A : LA) : Prop := CLm I A ∧ MLn I 81 A ∧ WR I (aN A)
def JB (I : IM) (lo hi : Int) : Prop := LH I lo hi ∧ LHm I 81 lo hi
def JT (I : IM) (T : Nat) : Prop := I 0 3 = nI T ∧ I 81 9 = nI T ∧ T ≤ 120 ∧ (∀ k, I 12 k = I 88 k) ∧ ∀ k, k < T → ¬ I 88 k = 0
def JS (I : IM) : Prop := ∀ s, s < 4 → (0 ≤ (I (73 + 2 * s) 2).toInt ∧ (I (73 + 2 * s) 2).toInt ≤ 13) ∧ (I (73 + 2 * s) 1 = 0 ∨ I (73 + 2 * s) 1 = 1 ∨ I (73 + 2 * s) 1 = 2) ∧ I 106 s = I (73 + 2 * s) 2 ∧ (I (73 + 2 * s) 0 = 0 ↔ I 105 s < 0) ∧ (¬ I (73 + 2 * s) 0 = 0 → I 105 s = I (73 + 2 * s) 1) ∧ ∀ k, k < 13 → I 107 (13 * s + k) = I (74 + 2 * s) k
def JZ (I : IM) : Prop := (∀ p, p < 13 → I 70 p = 0) ∧ ∀ k, k < 6 → I 103 k = 0
def JR (sh : Sh) (R : RM) : Prop := ClsF sh R ∧ RdrF sh R ∧ ModF sh R 81
def JJ (sh : Sh) (I : IM) (L : LM) (R : RM) : Prop := ∃ (A : LA) (lo hi : Int) (T : Nat), okA A ∧ JR sh R ∧ JA I A ∧ JB I lo hi ∧ JT I T ∧ JS I ∧ JZ I ∧ CPl I A lo hi ∧ CRest I L A
section JF
variable {I I' : IM} {A : LA} {lo hi : Int} {T : Nat}
theorem JA_fr (h : JA I A) (f : ∀ a k, ((1 ≤ a ∧ a ≤ 11) ∨ (a = 81 ∧ (k = 0 ∨ k = 7)) ∨ (82 ≤ a ∧ a ≤ 87)) → I' a k = I a k) : JA I' A := by
  obtain ⟨h1, ⟨a1, a2, a3, a4, a5, a6⟩, h3⟩ := h
  refine ⟨CLm_fr h1 (fun a k c1 c2 => f a k (by omega)), ⟨?_, fun k hk => ?_, fun k hk => ?_, fun p hp => ?_, ?_, fun s hs p hp => ?_⟩, fun k hk => ?_⟩
  · rw [f 81 0 (by omega)]; exact a1
  · rw [f _ _ (by omega)]; exact a2 k hk
  · rw [f _ _ (by omega)]; exact a3 k hk
  · rw [f _ _ (by omega)]; exact a4 p hp
  · rw [f 81 7 (by omega)]; exact a5
  · rw [f _ _ (by omega)]; exact a6 s hs p hp
  · rw [f 4 k (by omega), f 84 k (by omega), f 5 k (by omega), f 85 k (by omega)]; exact h3 k hk
theorem JB_fr (h : JB I lo hi) (f : ∀ a k, ((a = 0 ∧ (k = 11 ∨ k = 12)) ∨ (a = 81 ∧ (k = 37 ∨ k = 38))) → I' a k = I a k) : JB I' lo hi := by
  unfold JB LH LHm at *
  rw [f 0 11 (by omega), f 0 12 (by omega), f 81 37 (by omega), f 81 38 (by omega)]
  exact h
theorem JT_fr (h : JT I T) (f : ∀ a k, ((a = 0 ∧ k = 3) ∨ a = 12 ∨ (a = 81 ∧ k = 9) ∨ a = 88) → I' a k = I a k) : JT I' T := by
  obtain ⟨a1, a2, a3, a4, a5⟩ := h
  refine ⟨by rw [f 0 3 (by omega)]; exact a1, by rw [f 81 9 (by omega)]; exact a2, a3, fun k => ?_, fun k hk => ?_⟩
  · rw [f 12 k (by omega), f 88 k (by omega)]
    exact a4 k
  · rw [f 88 k (by omega)]
    exact a5 k hk
theorem JS_fr (h : JS I) (f : ∀ a k, ((73 ≤ a ∧ a ≤ 80) ∨ (105 ≤ a ∧ a ≤ 107)) → I' a k = I a k) : JS I' := fun s hs => by
  have := h s hs
  rw [f (73 + 2 * s) 2 (by omega), f (73 + 2 * s) 1 (by omega), f (73 + 2 * s) 0 (by omega), f 106 s (by omega), f 105 s (by omega)]
  refine ⟨this.1, this.2.1, this.2.2.1, this.2.2.2.1, this.2.2.2.2.1, fun k hk => ?_⟩
  rw [f 107 _ (by omega), f (74 + 2 * s) k (by omega)]
  exact this.2.2.2.2.2 k hk
theorem JZ_fr (h : JZ I) (f : ∀ a k, (a = 70 ∨ a = 103) → I' a k = I a k) : JZ I' := ⟨fun p hp => by rw [f 70 p (by omega)]; exact h.1 p hp, fun k hk => by rw [f 103 k (by omega)]; exact h.2 k hk⟩
theorem JP_fr (h : CPl I A lo hi) (f : ∀ a k, ((a = 0 ∧ k = 14) ∨ a = 61 ∨ a = 62) → I' a k = I a k) : CPl I' A lo hi := CPl_fr h (fun a k c => f a k (by omega)) (f 0 14 (by omega))
end JF
/-- what matters between two calls, rest aside -/
def Rel (a k : Nat) : Prop := (1 ≤ a ∧ a ≤ 12) ∨ (a = 0 ∧ (k = 3 ∨ k = 11 ∨ k = 12 ∨ k = 14)) ∨ a = 61 ∨ a = 62 ∨ a = 70 ∨ (73 ≤ a ∧ a ≤ 80) ∨ (a = 81 ∧ (k = 0 ∨ k = 7 ∨ k = 9 ∨ k = 37 ∨ k = 38)) ∨ (82 ≤ a ∧ a ≤ 88) ∨ a = 103 ∨ (105 ≤ a ∧ a ≤ 107)
theorem JJ_fr {sh : Sh} {I I' : IM} {L' : LM} {R' : RM} {A : LA} {lo hi : Int} {T : Nat} (a : okA A) (hR : JR sh R') (h1 : JA I A) (h2 : JB I lo hi) (h3 : JT I T) (h4 : JS I) (h5 : JZ I) (h6 : CPl I A lo hi) (h7 : CRest I' L' A) (f : ∀ a k, Rel a k → I' a k = I a k) : JJ sh I' L' R' :=
  ⟨A, lo, hi, T, a, hR, JA_fr h1 (fun a k c => f a k (by unfold Rel; omega)), JB_fr h2 (fun a k c => f a k (by unfold Rel; omega)), JT_fr h3 (fun a k c => f a k (by unfold Rel; omega)), JS_fr h4 (fun a k c => f a k (by unfold Rel; omega)), JZ_fr h5 (fun a k c => f a k (by unfold Rel; omega)), JP_fr h6 (fun a k c => f a k (by unfold Rel; omega)), h7⟩
/-- one call of both: the class answers, then the model, alike -/
def JMi (sh : Sh) (I : IM) (L : LM) (R : RM) (M1 M2 : PMd) (as : List Value) : Prop := ∃ P1 : PPost, PMet M1 (.ref 0 :: as) sh I L R P1 ∧ ∀ (r : Option Value) (sh1 : Sh) (I1 : IM) (L1 : LM) (R1 : RM), P1 r sh1 I1 L1 R1 → sh1 = sh ∧ ∃ x : Int32, r = some (.int x) ∧ ∃ P2 : PPost, PMet M2 (.ref 81 :: as) sh I1 L1 R1 P2 ∧ ∀ (r2 : Option Value) (sh2 : Sh) (I2 : IM) (L2 : LM) (R2 : RM), P2 r2 sh2 I2 L2 R2 → sh2 = sh ∧ r2 = some (.int x) ∧ JJ sh I2 L2 R2
def JMl (sh : Sh) (I : IM) (L : LM) (R : RM) (M1 M2 : PMd) (as : List Value) : Prop := ∃ P1 : PPost, PMet M1 (.ref 0 :: as) sh I L R P1 ∧ ∀ (r : Option Value) (sh1 : Sh) (I1 : IM) (L1 : LM) (R1 : RM), P1 r sh1 I1 L1 R1 → sh1 = sh ∧ ∃ x : Int64, r = some (.long x) ∧ ∃ P2 : PPost, PMet M2 (.ref 81 :: as) sh I1 L1 R1 P2 ∧ ∀ (r2 : Option Value) (sh2 : Sh) (I2 : IM) (L2 : LM) (R2 : RM), P2 r2 sh2 I2 L2 R2 → sh2 = sh ∧ r2 = some (.long x) ∧ JJ sh I2 L2 R2
theorem J_sum {I : IM} {A : LA} (h : JA I A) : ∀ p, p < 13 → I 6 p = I 86 p := fun p hp => Int32.toInt_inj.mp ((h.1.2.2.2.1 p hp).trans (h.2.1.2.2.2.1 p hp).symm)
theorem J_off {I : IM} {A : LA} (h : JA I A) : ∀ k, k < aN A → I 3 k = I 83 k := fun k hk => Int32.toInt_inj.mp ((h.1.2.2.1 k hk).trans (h.2.1.2.2.1 k hk).symm)
theorem J_pl {I : IM} {A : LA} (h : JA I A) : ∀ k, k < aN A → I 2 k = I 82 k := fun k hk => (h.1.2.1 k hk).trans (h.2.1.2.1 k hk).symm
theorem sumI_cg {f g : Nat → Int32} : ∀ n, (∀ k, k < n → f k = g k) → sumI f n = sumI g n
  | 0, _ => rfl
  | n + 1, h => by simp only [sumI, sumI_cg n (fun k hk => h k (by omega)), h n (by omega)]
theorem momI_congr {f g : Nat → Int32} : ∀ n, (∀ k, k < n → f k = g k) → momI f n = momI g n
  | 0, _ => rfl
  | n + 1, h => by simp only [momI, momI_congr n (fun k hk => h k (by omega)), h n (by omega)]
theorem cntP_congr {f g : Nat → Int32} : ∀ n, (∀ k, k < n → f k = g k) → cntP f n = cntP g n
  | 0, _ => rfl
  | n + 1, h => by simp only [cntP, cntP_congr n (fun k hk => h k (by omega)), h n (by omega)]
theorem missI_congr {f g : Nat → Int32} {x : Int32} : ∀ n, (∀ k, k < n → f k = g k) → missI x f n = missI x g n
  | 0, _ => rfl
  | n + 1, h => by simp only [missI, missI_congr n (fun k hk => h k (by omega)), h n (by omega)]
theorem missM_congr {f g f' g' : Nat → Int32} {x : Int32} : ∀ n, (∀ k, k < n → f k = f' k ∧ g k = g' k) → missM x f g n = missM x f' g' n
  | 0, _ => rfl
  | n + 1, h => by simp only [missM, missM_congr n (fun k hk => h k (by omega)), (h n (by omega)).1, (h n (by omega)).2]
theorem J_miss {I : IM} {A : LA} (h : JA I A) : missI (sumI (I 6) 13) (I 5) (aN A) = missI (sumI (I 86) 13) (I 85) (aN A) ∧ missM (momI (I 6) 13) (I 2) (I 5) (aN A) = missM (momI (I 86) 13) (I 82) (I 85) (aN A) := by
  rw [sumI_cg 13 (J_sum h), momI_congr 13 (J_sum h), missI_congr (aN A) (fun k hk => (h.2.2 k hk).2.1), missM_congr (aN A) (fun k hk => ⟨J_pl h k hk, (h.2.2 k hk).2.1⟩)]
  exact ⟨rfl, rfl⟩
/-! what calls leave: lines with one number changed -/
def stO (A : LA) (b : Nat) (v : Int) : LA := (aN A, aQ A, fun k => if k = b then v else aO A k, aW A, aF A, aR A)
def stW (A : LA) (p : Nat) (v : Int) : LA := (aN A, aQ A, aO A, fun k => if k = p then v else aW A k, aF A, aR A)
def stF (A : LA) (v : Int) : LA := (aN A, aQ A, aO A, aW A, v, aR A)
def stR (A : LA) (s p : Nat) (v : Int) : LA := (aN A, aQ A, aO A, aW A, aF A, fun t k => if t = s ∧ k = p then v else aR A t k)
theorem upd_toInt {I : IM} {c b k : Nat} {v : Int32} : (u2 I c b v c k).toInt = if k = b then v.toInt else (I c k).toInt := by
  by_cases e : k = b
  · rw [e, u2_s, if_pos rfl]
  · rw [u2_n2 e, if_neg e]
theorem CRest_f {I : IM} {L : LM} {A : LA} (h : I 0 9 = -1) : CRest I L A := Or.inl h
theorem CPl_f {I : IM} {A : LA} {lo hi : Int} (h : I 0 14 = 0) : CPl I A lo hi := Or.inl h
