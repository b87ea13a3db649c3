/-! the model's answers: frames, sets that are told by codes -/
def frMI (m : Nat) (I I' : IM) : Prop := ∀ a k, (a ≠ m ∨ (k ≠ 19 ∧ k ≠ 32 ∧ k ≠ 36)) → a ≠ m + 11 → a ≠ m + 12 → a ≠ m + 13 → a ≠ m + 20 → a ≠ m + 21 → I' a k = I a k
def frML (m : Nat) (L L' : LM) : Prop := ∀ a k, a < m → L' a k = L a k
theorem frMI_0 {m : Nat} {I : IM} : frMI m I I := fun _ _ _ _ _ _ _ _ => rfl
theorem frML_0 {m : Nat} {L : LM} : frML m L L := fun _ _ _ => rfl
theorem frMI_t {m : Nat} {I I' I'' : IM} (h1 : frMI m I I') (h2 : frMI m I' I'') : frMI m I I'' := fun a k c1 c2 c3 c4 c5 c6 => (h2 a k c1 c2 c3 c4 c5 c6).trans (h1 a k c1 c2 c3 c4 c5 c6)
theorem frML_t {m : Nat} {L L' L'' : LM} (h1 : frML m L L') (h2 : frML m L' L'') : frML m L L'' := fun a k c1 => (h2 a k c1).trans (h1 a k c1)
theorem frMI_S {m : Nat} {I I' : IM} (h : frSt m I I') : frMI m I I' := fun a k c1 c2 c3 c4 c5 c6 => h a k (by omega) c4 c5 c6
theorem frMI_C {m : Nat} {I I' : IM} (h : frCh m I I') : frMI m I I' := fun a k c1 c2 c3 c4 c5 c6 => h a k (by omega) c2 c3
theorem frMI_u {m c k : Nat} {I I' : IM} {x : Int32} (h : frMI m I I') (hc : (c = m ∧ (k = 19 ∨ k = 32 ∨ k = 36)) ∨ c = m + 11 ∨ c = m + 12 ∨ c = m + 13 ∨ c = m + 20 ∨ c = m + 21) : frMI m I (u2 I' c k x) := fun a j q1 q2 q3 q4 q5 q6 => by
  unfold u2
  rw [if_neg (by omega)]
  exact h a j q1 q2 q3 q4 q5 q6
theorem frML_G {m : Nat} {L L' : LM} (h : frG m L L') : frML m L L' := fun a k c1 => h a k (by omega) (by omega)
theorem frML_F {m : Nat} {L L' : LM} (h : frF m L L') : frML m L L' := fun a k c1 => h a k (by omega)
theorem frML_U {m : Nat} {L L' : LM} (h : frU m L L') : frML m L L' := fun a k c1 => h a k (by omega)
theorem MSm_MI {m : Nat} {I I' : IM} {A : LA} (h : MSm I m A) (f : frMI m I I') : MSm I' m A := by
  obtain ⟨a1, a2, a3, a4, a5, a6⟩ := h
  refine ⟨?_, fun k hk => ?_, fun k hk => ?_, fun p hp => ?_, ?_, fun s hs p hp => ?_⟩
  · rw [f m 0 (by omega) (by omega) (by omega) (by omega) (by omega) (by omega)]; exact a1
  · rw [f _ _ (by omega) (by omega) (by omega) (by omega) (by omega) (by omega)]; exact a2 k hk
  · rw [f _ _ (by omega) (by omega) (by omega) (by omega) (by omega) (by omega), f _ _ (by omega) (by omega) (by omega) (by omega) (by omega) (by omega)]; exact a3 k hk
  · rw [f _ _ (by omega) (by omega) (by omega) (by omega) (by omega) (by omega)]; exact a4 p hp
  · rw [f m 7 (by omega) (by omega) (by omega) (by omega) (by omega) (by omega)]; exact a5
  · rw [f _ _ (by omega) (by omega) (by omega) (by omega) (by omega) (by omega)]; exact a6 s hs p hp
def obM (sh : Sh) (I : IM) (L : LM) (R : RM) (m : Nat) (Ans : Option Value → Prop) : PPost := fun ret sh' I' L' R' => sh' = sh ∧ R' = R ∧ frMI m I I' ∧ frML m L L' ∧ Ans ret
theorem rsm_or {I' : IM} {L' : LM} {ret : Option Value} {m n : Nat} {q : Nat → Nat} {hh w : Nat → Rat} {F : Rat} (h7 : n ≤ 7) (h : (∃ c, firC n (lieC n q hh w F) c ∧ ret = some (.int (nI (rvN n c))) ∧ SolM I' m (cntS (selC (nI c) n) n - 2) (lyN (selC (nI c) n) q n) (lyQ (selC (nI c) n) hh n) w F ∧ loF L' m (cntS (selC (nI c) n) n - 2) (lyN (selC (nI c) n) q n) (lyQ (selC (nI c) n) hh n) w F) ∨ (nonC n (lieC n q hh w F) ∧ ret = some (.int (-4)))) : ∃ x : Int32, ret = some (.int x) ∧ (0 ≤ x → ∃ c, firC n (lieC n q hh w F) c ∧ x = nI (rvN n c) ∧ SolM I' m (cntS (selC (nI c) n) n - 2) (lyN (selC (nI c) n) q n) (lyQ (selC (nI c) n) hh n) w F ∧ loF L' m (cntS (selC (nI c) n) n - 2) (lyN (selC (nI c) n) q n) (lyQ (selC (nI c) n) hh n) w F) ∧ (¬ 0 ≤ x → nonC n (lieC n q hh w F)) := by
  rcases h with ⟨c, hc, e, hS, hlo⟩ | ⟨hn, e⟩
  · refine ⟨_, e, fun _ => ⟨c, hc, rfl, hS, hlo⟩, fun k => absurd ?_ k⟩
    have := rv_lt n h7 c hc.1
    have := p7 h7
    exact nI_ge0 (by omega)
  · exact ⟨_, e, fun k => absurd k (by decide), fun _ => hn⟩
theorem sel_rv {n c : Nat} (h7 : n ≤ 7) (hc : c < 2 ^ n) : ∀ k, k < n → selM (nI (rvN n c)) k = selC (nI c) n k := fun k hk => by
  have := rv_sel n h7 (rvN n c) (rv_lt n h7 c hc) k hk
  rw [rv_rv n h7 c hc] at this
  exact this.symm
theorem sel_v {n c : Nat} {x : Int32} (h7 : n ≤ 7) (hc : c < 2 ^ n) (ex : x = nI (rvN n c)) : ∀ k, k < n → selM x k = selC (nI c) n k := by
  subst ex
  exact sel_rv h7 hc
theorem RF_z {x y : Int64} {q : Rat} (h : RF x y q) : x.toInt = 0 ↔ q = 0 := by
  rw [h.1]
  exact Rat.num_eq_zero
theorem lofP_t {sh : Sh} {I : IM} {L : LM} {R : RM} {m : Nat} {v : Rat} : ∀ r sh' I' L' R', lofP sh I L R m v r sh' I' L' R' → r = none ∧ sh' = sh ∧ R' = R ∧ I' = I ∧ frF m L L' ∧ RF (L' m 17) (L' m 18) v := fun _ _ _ _ _ h => h
theorem bit_t {g : Nat → Bool} {k : Nat} {x v : Int32} (hx : x = bitF g k) (ev : v = nI k) (h : g k = true) : x ||| 1 <<< (v &&& 31) = bitF g (k + 1) := by
  subst hx; subst ev
  simp only [bitF, if_pos h]
theorem bit_f {g : Nat → Bool} {k : Nat} {x : Int32} (hx : x = bitF g k) (h : ¬ g k = true) : x ||| 0 = bitF g (k + 1) := by
  subst hx
  simp only [bitF, if_neg h]
  exact Int32.or_zero
/-- all of n -/
theorem all_sel : ∀ n, n ≤ 7 → ∀ k, k < n → selM (nI (2 ^ n - 1)) k = true := by
  have h : ∀ n, n < 8 → ∀ k, k < n → selM (nI (2 ^ n - 1)) k = true := by decide +kernel
  exact fun n hn => h n (by omega)
theorem all_code {x : Int32} {n : Nat} (hx : x = nI n) (h7 : n ≤ 7) : ∀ k, k < n → selM ((1 : Int32) <<< (x &&& 31) - 1) k = true := by
  subst hx
  rw [shl_1 n h7]
  exact all_sel n h7
theorem CnM_w {I : IM} {m n : Nat} {q : Nat → Nat} {hh w w' : Nat → Rat} {F : Rat} (h : CnM I m n q hh w F) (e : ∀ p, p < 13 → w p = w' p) : CnM I m n q hh w' F := ⟨h.1, h.2.1, h.2.2.1, fun p hp => by rw [← e p hp]; exact h.2.2.2.1 p hp, h.2.2.2.2⟩
theorem ch_sol2 {I : IM} {m n : Nat} {q : Nat → Nat} {hh w : Nat → Rat} {F : Rat} {c : Int32} {s : Nat → Bool} (h : CnM I m n q hh w F) (hs : ∀ k, k < n → selM c k = s k) (h2 : 2 ≤ cntS s n) : SolM (chI I m c n) m (cntS s n - 2) (lyN s q n) (lyQ s hh n) w F := by
  have hc := cntS_congr n hs
  have := ch_sol (c := c) h (by omega)
  rw [hc, lyN_congr n hs, lyQ_congr n hs] at this
  exact this
theorem wCut_13 {A : LA} : ∀ p, p < 13 → wgt A p = wCut A 0 13 p := fun p hp => by
  unfold wCut
  rw [if_pos ⟨Nat.zero_le _, hp⟩]
theorem gs_true {A : LA} (a : okA A) : ∀ k, k < aN A → gsB A 0 13 k = true := fun k hk => decide_eq_true ⟨Nat.zero_le _, a.2.1.1 k hk⟩
