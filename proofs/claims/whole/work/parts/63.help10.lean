/-! for the class's loads -/
theorem or_b {ret : Option Value} {P Q : Prop} (h : (ret = some (.int 1) ∧ P) ∨ (ret = some (.int 0) ∧ Q)) : ∃ bb : Bool, ret = some (.int (bI bb)) ∧ (bb = true → P) ∧ (bb = false → Q) := by
  rcases h with ⟨h, p⟩ | ⟨h, p⟩
  · exact ⟨true, h, fun _ => p, fun c => by cases c⟩
  · exact ⟨false, h, fun c => (by cases c), fun _ => p⟩
def ctrP (sh : Sh) (I : IM) (L : LM) (R : RM) (A : LA) (s : Nat) : PPost := fun ret sh' I' L' R' => sh' = sh ∧ R' = R ∧ frK I I' ∧ frKL L L' ∧ I' 0 9 = nI s ∧ CRs I' L' A s ∧ ((ret = some (.int 1) ∧ I' 0 10 = 0) ∨ (ret = some (.int 0) ∧ ¬ I' 0 10 = 0))
theorem CRs_fr {I I' : IM} {L L' : LM} {A : LA} {s : Nat} (h : CRs I L A s) (f : ∀ a k, 45 ≤ a → a ≤ 60 → I' a k = I a k) (f0 : I' 0 10 = I 0 10) (g : ∀ a k, 46 ≤ a → a ≤ 57 → L' a k = L a k) : CRs I' L' A s := by
  rcases h with ⟨h0, c, hc, hS⟩ | ⟨h0, hn⟩
  · exact Or.inl ⟨by rw [f0]; exact h0, c, hc, RestS_fr hS (fun a k h1 h2 => f a k h1 h2) (fun a k h1 h2 => g a k h1 h2)⟩
  · exact Or.inr ⟨by rw [f0]; exact h0, hn⟩
theorem CRest_fr {I I' : IM} {L L' : LM} {A : LA} (h : CRest I L A) (f : ∀ a k, 45 ≤ a → a ≤ 60 → I' a k = I a k) (f0 : ∀ k, k = 9 ∨ k = 10 → I' 0 k = I 0 k) (g : ∀ a k, 46 ≤ a → a ≤ 57 → L' a k = L a k) : CRest I' L' A := by
  rcases h with h | ⟨s, hs, h9, hc⟩
  · exact Or.inl (by rw [f0 9 (Or.inl rfl)]; exact h)
  · exact Or.inr ⟨s, hs, by rw [f0 9 (Or.inl rfl)]; exact h9, CRs_fr hc f (f0 10 (Or.inr rfl)) g⟩
theorem ctr_a {I : IM} {L : LM} {A : LA} {s : Nat} (h : CRest I L A) (hs : s < 4) (e : I 0 9 = nI s) : CRs I L A s := by
  rcases h with h | ⟨t, ht, h9, hc⟩
  · rw [h] at e
    have := congrArg Int32.toInt e
    rw [nI_toInt (by omega)] at this
    have z : (-1 : Int32).toInt = -1 := rfl
    omega
  · rw [h9] at e
    have e := (nI_eq (by omega) (by omega)).mp e
    subst e
    exact hc
theorem ctr_end {sh : Sh} {I I' : IM} {L L' : LM} {R : RM} {A : LA} {s : Nat} {x : Int32} (h9 : I' 0 9 = nI s) (fI : frK I I') (fL : frKL L L') (hc : CRs I' L' A s) (h : (x = 1 ∧ I' 0 10 = 0) ∨ (x = 0 ∧ ¬ I' 0 10 = 0)) : ctrP sh I L R A s (some (.int x)) sh I' L' R := by
  refine ⟨rfl, rfl, fI, fL, h9, hc, ?_⟩
  rcases h with ⟨h, p⟩ | ⟨h, p⟩
  · exact Or.inl ⟨by rw [h], p⟩
  · exact Or.inr ⟨by rw [h], p⟩
section ST
variable {I : IM} {L : LM} {A : LA}
theorem cl_F (hm : CLm I A) : RI (I 1 6).toInt64 (stf A) := by
  have h := RI_32 (I 1 6)
  rw [hm.2.2.2.2.1] at h
  exact h
theorem st_rest (hm : CLm I A) (a : okA A) (q : Nat → Nat) (hh : Nat → Rat) : RestI (u2 (u2 I 45 1 0) (45 + 1) 0 0) (carL (u2 L (45 + 1) 5 (I 1 6).toInt64) (45 + 1) 13 (carS (u2 (u2 I 45 1 0) (45 + 1) 0 0 6) 0 13) (carC (u2 (u2 I 45 1 0) (45 + 1) 0 0 6) 0 13) (carA (u2 (u2 I 45 1 0) (45 + 1) 0 0 6) 0 13 13) (carM (u2 (u2 I 45 1 0) (45 + 1) 0 0 6) 0 13 13)) 45 0 q hh (wgt A) (stf A) := by
  have e6 : (u2 (u2 I 45 1 0) (45 + 1) 0 0 6) = I 6 := by
    funext k
    rw [u2_n1 (by decide), u2_n1 (by decide)]
  rw [e6]
  exact rs_start (I0 := I) (cl_F hm) (cl_car hm a) q hh (by rw [u2_n1 (by decide), u2_s])
theorem st_frK : frK I (u2 (u2 I 45 1 0) (45 + 1) 0 0) := fun a k c1 c2 => by rw [u2_n1 (by omega), u2_n1 (by omega)]
theorem carL_fr {b p : Nat} {x : Int64} {S C : Nat → Int64} {M N : Int64} : ∀ a k, (a < b ∨ b + 5 < a) → carL (u2 L b 5 x) b p S C M N a k = L a k := fun a k h => by
  unfold carL
  rw [u2_n1 (by omega), u2_n1 (by omega), u1_n (by omega), u1_n (by omega), u2_n1 (by omega)]
theorem st_frL {p : Nat} {x : Int64} {S C : Nat → Int64} {M N : Int64} : frKL L (carL (u2 L (45 + 1) 5 x) (45 + 1) p S C M N) := fun a k h => carL_fr a k (by omega)
theorem CLm_K {I' : IM} (h : CLm I A) (f : frK I I') : CLm I' A := CLm_fr h (fun a k h1 h2 => f a k (by omega) (by omega))
theorem pb_all {s : Nat} (hm : CLm I A) (a : okA A) (hs : s < 4) (h : RestI I L 45 0 (aQ A) (hgt A s) (wgt A) (stf A)) : RestI (pbI I s 0 0 (aQ A) (aN A - 0)) L 45 (aN A) (aQ A) (hgt A s) (wgt A) (stf A) := by
  have := rs_pb (s := s) (fr := 0) (n0 := 0) (Q := aQ A) (aN A) h (fun j hj => by rw [Nat.zero_add]; exact hm.2.1 j hj) (fun j hj => by rw [Nat.zero_add]; exact cl_h hm a hs hj)
  rwa [Nat.zero_add] at this
theorem CRs_b1 {I3 : IM} {L3 : LM} {s : Nat} {v : Int32} (h : ∃ c, firC (aN A) (lieC (aN A) (aQ A) (hgt A s) (wgt A) (stf A)) c ∧ RestS I3 L3 45 (aN A) (selC (nI c) (aN A)) (aQ A) (hgt A s) (wgt A) (stf A)) : CRs (u2 (u2 I3 0 10 0) 0 9 v) L3 A s := by
  obtain ⟨c, hc, hS⟩ := h
  exact Or.inl ⟨by rw [u2_n2 (by decide), u2_s], c, hc, RestS_fr hS (fun a k h1 h2 => by rw [u2_n1 (by omega), u2_n1 (by omega)]) (fun _ _ _ _ => rfl)⟩
theorem CRs_b2 {I3 : IM} {L3 : LM} {s : Nat} {v : Int32} (h : nonC (aN A) (lieC (aN A) (aQ A) (hgt A s) (wgt A) (stf A))) : CRs (u2 (u2 I3 0 10 1) 0 9 v) L3 A s := Or.inr ⟨by rw [u2_n2 (by decide), u2_s], h⟩
theorem frK_u {I3 : IM} {x v : Int32} (f : frK I I3) : frK I (u2 (u2 I3 0 10 x) 0 9 v) := fun a k c1 c2 => by
  rw [← f a k c1 c2]
  unfold u2
  rw [if_neg (by omega), if_neg (by omega)]
end ST
