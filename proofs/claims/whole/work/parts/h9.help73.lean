/-! bearings come and go on both sides; rises by sheets -/
theorem z0I : (0 : Int32).toInt = 0 := rfl
section J3
variable {sh : Sh} {I I' : IM} {L L' : LM} {R R' : RM} {A A' : LA} {lo hi : Int} {T : Nat}
theorem insI_fr {n : Nat} {p v : Int32} {c k : Nat} (h : c < 1 ∨ (c = 1 ∧ k ≠ 0) ∨ 5 < c) : insI I n p v c k = I c k := by
  unfold insI
  rcases h with h | ⟨h, h2⟩ | h
  · rw [u2_n1 (by omega), m4_5 (by omega)]
  · rw [h, u2_n2 h2, m4_0]
  · rw [u2_n1 (by omega), m4_5 (by omega)]
theorem delI_fr {n j : Nat} {c k : Nat} (h : c < 1 ∨ (c = 1 ∧ k ≠ 0) ∨ 5 < c) : delI I n j c k = I c k := by
  unfold delI
  rcases h with h | ⟨h, h2⟩ | h
  · rw [u2_n1 (by omega), m4_5 (by omega)]
  · rw [h, u2_n2 h2, m4_0]
  · rw [u2_n1 (by omega), m4_5 (by omega)]
theorem delM_fr {m n j : Nat} {c k : Nat} (h : c < m ∨ (c = m ∧ k ≠ 0) ∨ m + 4 < c) : delM I m n j c k = I c k := by
  unfold delM
  rcases h with h | ⟨h, h2⟩ | h
  · rw [u2_n1 (by omega), m4_5 (by omega)]
  · rw [h, u2_n2 h2, m4_0]
  · rw [u2_n1 (by omega), m4_5 (by omega)]
theorem forgI_o {c k : Nat} (h : c ≠ 0 ∨ (k ≠ 9 ∧ k ≠ 14)) : forgI I c k = I c k := by
  unfold forgI u2
  rw [if_neg (by omega), if_neg (by omega)]
theorem JJ_bea (a : okA A) (hR : JR sh R) (h1 : JA I A) (h2 : JB I lo hi) (h3 : JT I T) (h4 : JS I) (h5 : JZ I) {p : Nat} {x v : Int32} (hx : x = nI p) (hp : p < 13) (hno : ∀ k, k < aN A → aQ A k ≠ p) (hn6 : aN A < 6) (hv : -50 ≤ v.toInt ∧ v.toInt ≤ 50) : JJ sh (insM (insI (forgI I) (aN A) x v) 81 (aN A) x v) L R ∧ insP (insI (forgI I) (aN A) x v 82) x (aN A) = cntL (I 2) x (aN A) := by
  obtain ⟨l1, l2, hW, hF, hRi, hWR⟩ := JA_un h1
  have l1 := lin_fr (I' := forgI I) l1 (fun a k c => forgI_o (by omega))
  have l2 := lin_fr (I' := insI (forgI I) (aN A) x v) l2 (fun a k c => by rw [insI_fr (by omega), forgI_o (by omega)])
  have s1 : LinS (insI (forgI I) (aN A) x v) 1 (insT (LSA A) (p, v.toInt)) := lin_ins l1 a.2.1.1 hp hx
  have hcP : insP (insI (forgI I) (aN A) x v 82) x (aN A) = cntN (aQ A) p (aN A) := by
    rw [hx]
    exact insP_N hp a.2.1 (by rw [← hx]; exact l2.2.1) hno (aN A) (Nat.le_refl _)
  have hcL : cntL (insI (forgI I) (aN A) x v 82) x (aN A) = cntN (aQ A) p (aN A) := by
    rw [hx]
    exact cntL_N hp (aN A) (by rw [← hx]; exact l2.2.1) a.2.1.1
  have hc1 : cntL (I 2) x (aN A) = cntN (aQ A) p (aN A) := by
    rw [hx]
    exact cntL_N hp (aN A) h1.1.2.1 a.2.1.1
  have hc2 : cntL (forgI I 2) x (aN A) = cntN (aQ A) p (aN A) := by
    have : forgI I 2 = I 2 := funext fun k => forgI_o (by omega)
    rw [this]; exact hc1
  have hm : cntN (aQ A) p (aN A) ≤ aN A := cntN_le _
  have s2 : LinS (insM (insI (forgI I) (aN A) x v) 81 (aN A) x v) 81 (insT (LSA A) (p, v.toInt)) := by
    unfold insM
    have e : insP (insI (forgI I) (aN A) x v (81 + 1)) x (aN A) = cntL (insI (forgI I) (aN A) x v (81 + 1)) x (aN A) := hcP.trans hcL.symm
    rw [e]
    exact lin_ins (S := LSA A) l2 a.2.1.1 hp hx
  have s1 := lin_fr (I' := insM (insI (forgI I) (aN A) x v) 81 (aN A) x v) s1 (fun a k c => insM_fr (by omega))
  have f : ∀ a k, (a < 1 ∨ (a = 1 ∧ k ≠ 0) ∨ 5 < a) → (a < 81 ∨ (a = 81 ∧ k ≠ 0) ∨ 85 < a) → (a ≠ 0 ∨ (k ≠ 9 ∧ k ≠ 14)) → insM (insI (forgI I) (aN A) x v) 81 (aN A) x v a k = I a k := fun a k c1 c2 c3 => by
    rw [insM_fr (by omega), insI_fr c1, forgI_o c3]
  have ok := okI_ins (S := LSA A) (p := p) (v := v.toInt) ⟨a.1, a.2.1, a.2.2.1⟩ hn6 hp hno hv
  have a' : okA ((insT (LSA A) (p, v.toInt)).1, (insT (LSA A) (p, v.toInt)).2.1, (insT (LSA A) (p, v.toInt)).2.2, aW A, aF A, aR A) := ⟨ok.1, ok.2.1, ok.2.2, a.2.2.2⟩
  refine ⟨JJ_new a' hR (JA_mk s1 s2 (fun q hq => ?_) ?_ (fun s hs q hq => ?_) (fun k hk => ?_)) h2 h3 h4 h5 ?_ ?_ (fun a k c => f a k (by unfold RelX at c; omega) (by unfold RelX at c; omega) (by unfold RelX at c; omega)), hcP.trans hc1.symm⟩
  · rw [f 6 q (by omega) (by omega) (by omega), f 86 q (by omega) (by omega) (by omega)]; exact hW q hq
  · rw [f 1 6 (by omega) (by omega) (by omega), f 81 7 (by omega) (by omega) (by omega)]; exact hF
  · rw [f (8 + s) q (by omega) (by omega) (by omega), f 87 _ (by omega) (by omega) (by omega)]; exact hRi s hs q hq
  · have hk : k < aN A + 1 := hk
    have e4 : insM (insI (forgI I) (aN A) x v) 81 (aN A) x v 4 k = insG (I 4) (cntN (aQ A) p (aN A)) 0 k := by
      rw [insM_fr (by omega)]
      unfold insI
      rw [u2_n1 (by omega), show (4 : Nat) = 1 + 3 from rfl, m4_3]
      show insF (forgI I 4) (cntL (forgI I 2) x (aN A)) (aN A) 0 k = _
      have : forgI I 4 = I 4 := funext fun k => forgI_o (by omega)
      rw [hc2, this, insF_G hm (by omega)]
    have e5 : insM (insI (forgI I) (aN A) x v) 81 (aN A) x v 5 k = insG (I 5) (cntN (aQ A) p (aN A)) 0 k := by
      rw [insM_fr (by omega)]
      unfold insI
      rw [u2_n1 (by omega), show (5 : Nat) = 1 + 4 from rfl, m4_4]
      show insF (forgI I 5) (cntL (forgI I 2) x (aN A)) (aN A) 0 k = _
      have : forgI I 5 = I 5 := funext fun k => forgI_o (by omega)
      rw [hc2, this, insF_G hm (by omega)]
    have e84 : insM (insI (forgI I) (aN A) x v) 81 (aN A) x v 84 k = insG (I 84) (cntN (aQ A) p (aN A)) 0 k := by
      unfold insM
      rw [u2_n1 (by omega), show (84 : Nat) = 81 + 3 from rfl, m4_3]
      show insF (insI (forgI I) (aN A) x v 84) (insP (insI (forgI I) (aN A) x v 82) x (aN A)) (aN A) 0 k = _
      have : insI (forgI I) (aN A) x v 84 = I 84 := funext fun k => by rw [insI_fr (by omega), forgI_o (by omega)]
      rw [hcP, this, insF_G hm (by omega)]
    have e85 : insM (insI (forgI I) (aN A) x v) 81 (aN A) x v 85 k = insG (I 85) (cntN (aQ A) p (aN A)) 0 k := by
      unfold insM
      rw [u2_n1 (by omega), show (85 : Nat) = 81 + 4 from rfl, m4_4]
      show insF (insI (forgI I) (aN A) x v 85) (insP (insI (forgI I) (aN A) x v 82) x (aN A)) (aN A) 0 k = _
      have : insI (forgI I) (aN A) x v 85 = I 85 := funext fun k => by rw [insI_fr (by omega), forgI_o (by omega)]
      rw [hcP, this, insF_G hm (by omega)]
    rw [e4, e5, e84, e85]
    rcases Nat.lt_trichotomy k (cntN (aQ A) p (aN A)) with c | c | c
    · rw [insG_lt c, insG_lt c, insG_lt c, insG_lt c]; exact hWR k (by omega)
    · rw [c, insG_m, insG_m, insG_m, insG_m]; exact ⟨rfl, rfl, by decide, by decide⟩
    · rw [insG_gt c, insG_gt c, insG_gt c, insG_gt c]; exact hWR (k - 1) (by omega)
  · rw [insM_fr (by omega), insI_fr (by omega)]; rfl
  · rw [insM_fr (by omega), insI_fr (by omega)]; rfl
theorem JJ_rem (a : okA A) (hR : JR sh R) (h1 : JA I A) (h2 : JB I lo hi) (h3 : JT I T) (h4 : JS I) (h5 : JZ I) {j : Nat} (hj : j < aN A) : JJ sh (delM (delI (forgI I) (aN A) j) 81 (aN A) j) L R := by
  obtain ⟨l1, l2, hW, hF, hRi, hWR⟩ := JA_un h1
  have f : ∀ a k, (a < 1 ∨ (a = 1 ∧ k ≠ 0) ∨ 5 < a) → (a < 81 ∨ (a = 81 ∧ k ≠ 0) ∨ 85 < a) → (a ≠ 0 ∨ (k ≠ 9 ∧ k ≠ 14)) → delM (delI (forgI I) (aN A) j) 81 (aN A) j a k = I a k := fun a k c1 c2 c3 => by
    rw [delM_fr (by omega), delI_fr c1, forgI_o c3]
  have dl : ∀ (g : Nat → Int32) k, dlF g j (aN A - 1) k = if j ≤ k ∧ k < aN A - 1 then g (k + 1) else g k := fun g k => rfl
  have r : ∀ c k, (c = 2 ∨ c = 3 ∨ c = 4 ∨ c = 5) → delM (delI (forgI I) (aN A) j) 81 (aN A) j c k = dlF (I c) j (aN A - 1) k := fun c k hc => by
    rw [delM_fr (by omega)]
    unfold delI
    rw [u2_n1 (by omega)]
    have e0 : ∀ c, c ≠ 0 → forgI I c = I c := fun c h => funext fun k => forgI_o (Or.inl h)
    rcases hc with rfl | rfl | rfl | rfl
    · rw [show (2 : Nat) = 1 + 1 from rfl, m4_1, e0 (1 + 1) (by decide)]
    · rw [show (3 : Nat) = 1 + 2 from rfl, m4_2, e0 (1 + 2) (by decide)]
    · rw [show (4 : Nat) = 1 + 3 from rfl, m4_3, e0 (1 + 3) (by decide)]
    · rw [show (5 : Nat) = 1 + 4 from rfl, m4_4, e0 (1 + 4) (by decide)]
  have rM : ∀ c k, (c = 82 ∨ c = 83 ∨ c = 84 ∨ c = 85) → delM (delI (forgI I) (aN A) j) 81 (aN A) j c k = dlF (I c) j (aN A - 1) k := fun c k hc => by
    unfold delM
    rw [u2_n1 (by omega)]
    have e0 : ∀ c, 5 < c → delI (forgI I) (aN A) j c = I c := fun c h => funext fun k => by rw [delI_fr (by omega), forgI_o (by omega)]
    rcases hc with rfl | rfl | rfl | rfl
    · rw [show (82 : Nat) = 81 + 1 from rfl, m4_1, e0 (81 + 1) (by decide)]
    · rw [show (83 : Nat) = 81 + 2 from rfl, m4_2, e0 (81 + 2) (by decide)]
    · rw [show (84 : Nat) = 81 + 3 from rfl, m4_3, e0 (81 + 3) (by decide)]
    · rw [show (85 : Nat) = 81 + 4 from rfl, m4_4, e0 (81 + 4) (by decide)]
  have a' : okA (aN A - 1, (fun k => if j ≤ k ∧ k < aN A - 1 then aQ A (k + 1) else aQ A k), (fun k => if j ≤ k ∧ k < aN A - 1 then aO A (k + 1) else aO A k), aW A, aF A, aR A) := by
    have h6 := a.1
    refine ⟨by show aN A - 1 ≤ 6; omega, ⟨fun k hk => ?_, fun k hk => ?_⟩, fun k hk => ?_, a.2.2.2⟩
    · have hk : k < aN A - 1 := hk
      show (if j ≤ k ∧ k < aN A - 1 then aQ A (k + 1) else aQ A k) < 13
      split
      · exact a.2.1.1 _ (by omega)
      · exact a.2.1.1 _ (by omega)
    · have hk : k + 1 < aN A - 1 := hk
      show (if j ≤ k ∧ k < aN A - 1 then aQ A (k + 1) else aQ A k) < (if j ≤ k + 1 ∧ k + 1 < aN A - 1 then aQ A (k + 1 + 1) else aQ A (k + 1))
      have g1 := a.2.1.2 k (by omega)
      have g2 := a.2.1.2 (k + 1) (by omega)
      split <;> split <;> omega
    · have hk : k < aN A - 1 := hk
      show -50 ≤ (if j ≤ k ∧ k < aN A - 1 then aO A (k + 1) else aO A k) ∧ (if j ≤ k ∧ k < aN A - 1 then aO A (k + 1) else aO A k) ≤ 50
      split
      · exact a.2.2.1 _ (by omega)
      · exact a.2.2.1 _ (by omega)
  refine JJ_new a' hR (JA_mk ⟨?_, fun k hk => ?_, fun k hk => ?_⟩ ⟨?_, fun k hk => ?_, fun k hk => ?_⟩ (fun q hq => ?_) ?_ (fun s hs q hq => ?_) (fun k hk => ?_)) h2 h3 h4 h5 ?_ ?_ (fun a k c => f a k (by unfold RelX at c; omega) (by unfold RelX at c; omega) (by unfold RelX at c; omega))
  · rw [delM_fr (by omega)]
    unfold delI
    exact u2_s
  · have hk : k < aN A - 1 := hk
    show delM (delI (forgI I) (aN A) j) 81 (aN A) j 2 k = nI (if j ≤ k ∧ k < aN A - 1 then aQ A (k + 1) else aQ A k)
    rw [r 2 k (by omega), dl]
    split
    · exact l1.2.1 _ (show k + 1 < aN A by omega)
    · exact l1.2.1 _ (show k < aN A by omega)
  · have hk : k < aN A - 1 := hk
    show (delM (delI (forgI I) (aN A) j) 81 (aN A) j 3 k).toInt = (if j ≤ k ∧ k < aN A - 1 then aO A (k + 1) else aO A k)
    rw [r 3 k (by omega), dl]
    split
    · exact l1.2.2 _ (show k + 1 < aN A by omega)
    · exact l1.2.2 _ (show k < aN A by omega)
  · unfold delM
    exact u2_s
  · have hk : k < aN A - 1 := hk
    show delM (delI (forgI I) (aN A) j) 81 (aN A) j 82 k = nI (if j ≤ k ∧ k < aN A - 1 then aQ A (k + 1) else aQ A k)
    rw [rM 82 k (by omega), dl]
    split
    · exact l2.2.1 _ (show k + 1 < aN A by omega)
    · exact l2.2.1 _ (show k < aN A by omega)
  · have hk : k < aN A - 1 := hk
    show (delM (delI (forgI I) (aN A) j) 81 (aN A) j 83 k).toInt = (if j ≤ k ∧ k < aN A - 1 then aO A (k + 1) else aO A k)
    rw [rM 83 k (by omega), dl]
    split
    · exact l2.2.2 _ (show k + 1 < aN A by omega)
    · exact l2.2.2 _ (show k < aN A by omega)
  · rw [f 6 q (by omega) (by omega) (by omega), f 86 q (by omega) (by omega) (by omega)]; exact hW q hq
  · rw [f 1 6 (by omega) (by omega) (by omega), f 81 7 (by omega) (by omega) (by omega)]; exact hF
  · rw [f (8 + s) q (by omega) (by omega) (by omega), f 87 _ (by omega) (by omega) (by omega)]; exact hRi s hs q hq
  · have hk : k < aN A - 1 := hk
    rw [r 4 k (by omega), r 5 k (by omega), rM 84 k (by omega), rM 85 k (by omega), dl, dl, dl, dl]
    split
    · exact hWR _ (by omega)
    · exact hWR _ (by omega)
  · rw [delM_fr (by omega), delI_fr (by omega)]; rfl
  · rw [delM_fr (by omega), delI_fr (by omega)]; rfl
/-- RISES from a row -/
theorem JJ_rws (a : okA A) (hR : JR sh R) (h1 : JA I A) (h2 : JB I lo hi) (h3 : JT I T) (h4 : JS I) (h5 : JZ I) {t n : Nat} {g : Nat → Int32} {E G : Nat → Int32} (ht : t < 4) (hn : n ≤ 13) (hg : ∀ k, k < n → -20 ≤ (g k).toInt ∧ (g k).toInt ≤ 20) (hE : ∀ k, k < 13 → E k = if k < n then g k else I (8 + t) k) (hG : ∀ j, j < 52 → G j = if 13 * t ≤ j ∧ j < 13 * t + n then g (j - 13 * t) else I 87 j) : JJ sh (u1 (u1 (forgI I) (8 + t) E) 87 G) L R := by
  obtain ⟨l1, l2, hW, hF, hRi, hWR⟩ := JA_un h1
  have f : ∀ a k, a ≠ 8 + t → a ≠ 87 → (a ≠ 0 ∨ (k ≠ 9 ∧ k ≠ 14)) → u1 (u1 (forgI I) (8 + t) E) 87 G a k = I a k := fun a k c1 c2 c3 => by
    rw [u1_o c2, u1_o c1, forgI_o c3]
  have a' : okA (aN A, aQ A, aO A, aW A, aF A, fun s p => if s = t ∧ p < n then (g p).toInt else aR A s p) := by
    refine ⟨a.1, a.2.1, a.2.2.1, a.2.2.2.1, a.2.2.2.2.1, a.2.2.2.2.2.1, fun s hs p hp => ?_⟩
    show -20 ≤ (if s = t ∧ p < n then (g p).toInt else aR A s p) ∧ (if s = t ∧ p < n then (g p).toInt else aR A s p) ≤ 20
    split
    · rename_i c; exact hg p c.2
    · exact a.2.2.2.2.2.2 s hs p hp
  refine JJ_new a' hR (JA_mk (lin_fr l1 (fun a k c => f a k (by omega) (by omega) (by omega))) (lin_fr l2 (fun a k c => f a k (by omega) (by omega) (by omega))) (fun p hp => ?_) ?_ (fun s hs p hp => ⟨?_, ?_⟩) (WR_fr hWR (fun a k c => f a k (by omega) (by omega) (by omega)))) h2 h3 h4 h5 ?_ ?_ (fun a k c => f a k (by unfold RelX at c; omega) (by unfold RelX at c; omega) (by unfold RelX at c; omega))
  · rw [f 6 p (by omega) (by omega) (by omega), f 86 p (by omega) (by omega) (by omega)]; exact hW p hp
  · rw [f 1 6 (by omega) (by omega) (by omega), f 81 7 (by omega) (by omega) (by omega)]; exact hF
  · show (u1 (u1 (forgI I) (8 + t) E) 87 G (8 + s) p).toInt = if s = t ∧ p < n then (g p).toInt else aR A s p
    rw [u1_o (by omega)]
    by_cases e : s = t
    · rw [e]
      rw [e] at hs
      have : u1 (forgI I) (8 + t) E (8 + t) p = E p := if_pos rfl
      rw [this, hE p hp]
      by_cases c : p < n
      · rw [if_pos c, if_pos ⟨rfl, c⟩]
      · rw [if_neg c, if_neg (fun q => c q.2)]; exact (hRi t hs p hp).1
    · rw [u1_o (by omega), forgI_o (by omega), if_neg (fun q => e q.1)]; exact (hRi s hs p hp).1
  · show (u1 (u1 (forgI I) (8 + t) E) 87 G 87 (13 * s + p)).toInt = if s = t ∧ p < n then (g p).toInt else aR A s p
    have : u1 (u1 (forgI I) (8 + t) E) 87 G 87 (13 * s + p) = G (13 * s + p) := if_pos rfl
    rw [this, hG _ (by omega)]
    by_cases e : s = t ∧ p < n
    · rw [if_pos e, if_pos (by omega)]
      rw [e.1, Nat.add_sub_cancel_left]
    · rw [if_neg e, if_neg (by omega)]; exact (hRi s hs p hp).2
  · rw [u1_o (by omega), u1_o (by omega)]; rfl
  · rw [u1_o (by omega), u1_o (by omega)]; rfl
theorem has_eq {c i n : Int32} (hc : 0 ≤ c.toInt ∧ c.toInt ≤ 13) (hn : 0 ≤ n.toInt) : hasB c i n = hasM c i n := by
  cases e : hasM c i n with
  | true =>
    have h := of_decide_eq_true e
    refine decide_eq_true ⟨?_, ?_, ?_, ?_⟩
    · rw [Int32.lt_iff_toInt_lt, z0I]; omega
    · rw [Int32.lt_iff_toInt_lt, z0I]; omega
    · rw [Int32.lt_iff_toInt_lt]; omega
    · rw [Int32.lt_iff_toInt_lt, Int32.toInt_sub, Int.bmod_eq_of_le (by omega) (by omega)]; omega
  | false =>
    have h := of_decide_eq_false e
    refine decide_eq_false (fun q => h ?_)
    have := hasB_in (decide_eq_true q) hc
    exact ⟨this.1, this.2.2⟩
theorem fault_eq (h4 : JS I) {s : Nat} (hs : s < 4) {l i n : Int32} (hn : 0 ≤ n.toInt) : faultS (I (73 + 2 * s) 0) (I (73 + 2 * s) 1) (I (73 + 2 * s) 2) l i n = faultM (I 105 s) (I 106 s) l i n := by
  obtain ⟨g1, g2, g3, g4, g5, g6⟩ := h4 s hs
  unfold faultS faultM
  by_cases c : I (73 + 2 * s) 0 = 0
  · rw [if_pos c, if_pos (g4.mp c)]
  · rw [if_neg c, if_neg (fun q => c (g4.mpr q)), g5 c, g3, has_eq g1 hn]
end J3
