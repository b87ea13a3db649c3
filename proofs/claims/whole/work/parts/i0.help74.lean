/-! sheets and texts on both sides -/
def JS1 (I : IM) (s : Nat) : Prop := (0 ≤ (I (73 + 2 * s) 2).toInt ∧ (I (73 + 2 * s) 2).toInt ≤ 13) ∧ (I (73 + 2 * s) 1 = 0 ∨ I (73 + 2 * s) 1 = 1 ∨ I (73 + 2 * s) 1 = 2) ∧ I 106 s = I (73 + 2 * s) 2 ∧ (I (73 + 2 * s) 0 = 0 ↔ I 105 s < 0) ∧ (¬ I (73 + 2 * s) 0 = 0 → I 105 s = I (73 + 2 * s) 1) ∧ ∀ k, k < 13 → I 107 (13 * s + k) = I (74 + 2 * s) k
section J4
variable {sh : Sh} {I I' : IM} {L L' : LM} {R R' : RM} {A : LA} {lo hi : Int} {T : Nat}
theorem JS_one {s : Nat} (h4 : JS I) (f1 : ∀ t, t < 4 → t ≠ s → (∀ k, I' (73 + 2 * t) k = I (73 + 2 * t) k) ∧ (∀ k, I' (74 + 2 * t) k = I (74 + 2 * t) k) ∧ I' 105 t = I 105 t ∧ I' 106 t = I 106 t ∧ ∀ k, k < 13 → I' 107 (13 * t + k) = I 107 (13 * t + k)) (h : JS1 I' s) : JS I' := fun t ht => by
  by_cases e : t = s
  · rw [e]; exact h
  · obtain ⟨e1, e2, e3, e4, e5⟩ := f1 t ht e
    obtain ⟨g1, g2, g3, g4, g5, g6⟩ := h4 t ht
    rw [e1, e1, e1, e3, e4]
    refine ⟨g1, g2, g3, g4, g5, fun k hk => ?_⟩
    rw [e5 k hk, e2]
    exact g6 k hk
theorem JJ_s (a : okA A) (hR : JR sh R') (h1 : JA I A) (h2 : JB I lo hi) (h3 : JT I T) (h5 : JZ I) (h6 : CPl I A lo hi) (h7 : CRest I L A) (hS : JS I') (f : ∀ a k, (a < 73 ∨ (80 < a ∧ a < 105) ∨ 108 < a) → I' a k = I a k) : JJ sh I' L R' :=
  ⟨A, lo, hi, T, a, hR, JA_fr h1 (fun a k c => f a k (by omega)), JB_fr h2 (fun a k c => f a k (by omega)), JT_fr h3 (fun a k c => f a k (by omega)), hS, JZ_fr h5 (fun a k c => f a k (by omega)), JP_fr h6 (fun a k c => f a k (by omega)), CRest_fr h7 (fun a k _ _ => f a k (by omega)) (fun k _ => f 0 k (by omega)) (fun _ _ _ _ => rfl)⟩
theorem beg_o {b c k : Nat} {l n : Int32} (h : c ≠ b) (h2 : c ≠ b + 1) : begI I b l n c k = I c k := by
  unfold begI
  rw [u1_o h2, u2_n1 h, u2_n1 h, u2_n1 h]
theorem beg_0 {b : Nat} {l n : Int32} : begI I b l n b 0 = 1 ∧ begI I b l n b 1 = l ∧ begI I b l n b 2 = n := by
  unfold begI
  rw [u1_o (by omega), u2_n2 (by decide), u2_n2 (by decide), u2_s, u2_n2 (by decide), u2_s, u2_s]
  exact ⟨rfl, rfl, rfl⟩
theorem beg_r {b k : Nat} {l n : Int32} (h : k < 13) : begI I b l n (b + 1) k = 0 := by
  unfold begI u1
  rw [if_pos rfl]
  exact if_pos h
theorem tapI_o {c e f T n r a k : Nat} {w : Int64} (h1 : a ≠ c) (h2 : a ≠ e ∨ k ≠ f) : tapI I c e f T w n r a k = I a k := by
  unfold tapI u2 u1
  rw [if_neg (by omega), if_neg h1]
theorem JJ_sht (a : okA A) (hR : JR sh R) (h1 : JA I A) (h2 : JB I lo hi) (h3 : JT I T) (h4 : JS I) (h5 : JZ I) (h6 : CPl I A lo hi) (h7 : CRest I L A) {s : Nat} {l n : Int32} {G : Nat → Int32} (hs : s < 4) (hl : 0 ≤ l.toInt ∧ l.toInt ≤ 2) (hn : 0 ≤ n.toInt ∧ n.toInt ≤ 13) (hG : ∀ k, G k = if 13 * s ≤ k ∧ k < 13 * s + 13 then 0 else I 107 k) : JJ sh (u1 (u2 (u2 (begI I (73 + 2 * s) l n) 105 s l) 106 s n) 107 G) L R := by
  have hl3 : l = 0 ∨ l = 1 ∨ l = 2 := by
    have : l.toInt = 0 ∨ l.toInt = 1 ∨ l.toInt = 2 := by omega
    rcases this with e | e | e
    · exact Or.inl (Int32.toInt_inj.mp e)
    · exact Or.inr (Or.inl (Int32.toInt_inj.mp e))
    · exact Or.inr (Or.inr (Int32.toInt_inj.mp e))
  have hb := beg_0 (I := I) (b := 73 + 2 * s) (l := l) (n := n)
  refine JJ_s a hR h1 h2 h3 h5 h6 h7 (JS_one (s := s) h4 (fun t ht e => ⟨fun k => ?_, fun k => ?_, ?_, ?_, fun k hk => ?_⟩) ?_) (fun a k c => ?_)
  · rw [u1_o (by omega), u2_n1 (by omega), u2_n1 (by omega), beg_o (by omega) (by omega)]
  · rw [u1_o (by omega), u2_n1 (by omega), u2_n1 (by omega), beg_o (by omega) (by omega)]
  · rw [u1_o (by omega), u2_n1 (by omega), u2_n2 e, beg_o (by omega) (by omega)]
  · rw [u1_o (by omega), u2_n2 e, u2_n1 (by omega), beg_o (by omega) (by omega)]
  · show G (13 * t + k) = _
    rw [hG, if_neg (by omega)]
  · have e0 : ∀ k, u1 (u2 (u2 (begI I (73 + 2 * s) l n) 105 s l) 106 s n) 107 G (73 + 2 * s) k = begI I (73 + 2 * s) l n (73 + 2 * s) k := fun k => by
      rw [u1_o (by omega), u2_n1 (by omega), u2_n1 (by omega)]
    have e5 : u1 (u2 (u2 (begI I (73 + 2 * s) l n) 105 s l) 106 s n) 107 G 105 s = l := by rw [u1_o (by omega), u2_n1 (by omega), u2_s]
    have e6 : u1 (u2 (u2 (begI I (73 + 2 * s) l n) 105 s l) 106 s n) 107 G 106 s = n := by rw [u1_o (by omega), u2_s]
    unfold JS1
    rw [e0, e0, e0, hb.1, hb.2.1, hb.2.2, e5, e6]
    refine ⟨hn, hl3, rfl, ⟨fun q => absurd q (by decide), fun q => ?_⟩, fun _ => rfl, fun k hk => ?_⟩
    · rw [Int32.lt_iff_toInt_lt, z0I] at q; omega
    · show G (13 * s + k) = _
      rw [hG, if_pos (by omega), u1_o (by omega), u2_n1 (by omega), u2_n1 (by omega), show 74 + 2 * s = 73 + 2 * s + 1 by omega, beg_r hk]
  · rw [u1_o (by omega), u2_n1 (by omega), u2_n1 (by omega), beg_o (by omega) (by omega)]
theorem JJ_drp (a : okA A) (hR : JR sh R) (h1 : JA I A) (h2 : JB I lo hi) (h3 : JT I T) (h4 : JS I) (h5 : JZ I) (h6 : CPl I A lo hi) (h7 : CRest I L A) {s : Nat} (hs : s < 4) : JJ sh (u2 (u2 I (73 + 2 * s) 0 0) 105 s (-1)) L R := by
  refine JJ_s a hR h1 h2 h3 h5 h6 h7 (JS_one (s := s) h4 (fun t ht e => ⟨fun k => ?_, fun k => ?_, ?_, ?_, fun k hk => ?_⟩) ?_) (fun a k c => ?_)
  · rw [u2_n1 (by omega), u2_n1 (by omega)]
  · rw [u2_n1 (by omega), u2_n1 (by omega)]
  · rw [u2_n2 e, u2_n1 (by omega)]
  · rw [u2_n1 (by omega), u2_n1 (by omega)]
  · rw [u2_n1 (by omega), u2_n1 (by omega)]
  · obtain ⟨g1, g2, g3, g4, g5, g6⟩ := h4 s hs
    have e0 : u2 (u2 I (73 + 2 * s) 0 0) 105 s (-1) (73 + 2 * s) 0 = 0 := by rw [u2_n1 (by omega), u2_s]
    have e1 : u2 (u2 I (73 + 2 * s) 0 0) 105 s (-1) (73 + 2 * s) 1 = I (73 + 2 * s) 1 := by rw [u2_n1 (by omega), u2_n2 (by decide)]
    have e2 : u2 (u2 I (73 + 2 * s) 0 0) 105 s (-1) (73 + 2 * s) 2 = I (73 + 2 * s) 2 := by rw [u2_n1 (by omega), u2_n2 (by decide)]
    have e6 : u2 (u2 I (73 + 2 * s) 0 0) 105 s (-1) 106 s = I 106 s := by rw [u2_n1 (by omega), u2_n1 (by omega)]
    unfold JS1
    rw [e0, e1, e2, e6, u2_s]
    refine ⟨g1, g2, g3, ⟨fun _ => by decide, fun _ => rfl⟩, fun q => absurd rfl q, fun k hk => ?_⟩
    rw [u2_n1 (by omega), u2_n1 (by omega), u2_n1 (by omega), u2_n1 (by omega)]
    exact g6 k hk
  · rw [u2_n1 (by omega), u2_n1 (by omega)]
theorem JJ_itm (a : okA A) (hR : JR sh R) (h1 : JA I A) (h2 : JB I lo hi) (h3 : JT I T) (h4 : JS I) (h5 : JZ I) (h6 : CPl I A lo hi) (h7 : CRest I L A) {s c i : Nat} {x : Int32} (hs : s < 4) (hc : c = 74 + 2 * s) (hi : i < 13) : JJ sh (u2 (u2 I c i x) 107 (13 * s + i) x) L R := by
  subst hc
  refine JJ_s a hR h1 h2 h3 h5 h6 h7 (JS_one (s := s) h4 (fun t ht e => ⟨fun k => ?_, fun k => ?_, ?_, ?_, fun k hk => ?_⟩) ?_) (fun a k c => ?_)
  · rw [u2_n1 (by omega), u2_n1 (by omega)]
  · rw [u2_n1 (by omega), u2_n1 (by omega)]
  · rw [u2_n1 (by omega), u2_n1 (by omega)]
  · rw [u2_n1 (by omega), u2_n1 (by omega)]
  · rw [u2_n2 (by omega), u2_n1 (by omega)]
  · obtain ⟨g1, g2, g3, g4, g5, g6⟩ := h4 s hs
    have e0 : ∀ k, u2 (u2 I (74 + 2 * s) i x) 107 (13 * s + i) x (73 + 2 * s) k = I (73 + 2 * s) k := fun k => by rw [u2_n1 (by omega), u2_n1 (by omega)]
    have e5 : u2 (u2 I (74 + 2 * s) i x) 107 (13 * s + i) x 105 s = I 105 s := by rw [u2_n1 (by omega), u2_n1 (by omega)]
    have e6 : u2 (u2 I (74 + 2 * s) i x) 107 (13 * s + i) x 106 s = I 106 s := by rw [u2_n1 (by omega), u2_n1 (by omega)]
    unfold JS1
    rw [e0, e0, e0, e5, e6]
    refine ⟨g1, g2, g3, g4, g5, fun k hk => ?_⟩
    by_cases e : k = i
    · rw [e, u2_s, u2_n1 (by omega), u2_s]
    · rw [u2_n2 (by omega), u2_n1 (by omega), u2_n1 (by omega), u2_n2 e]
      exact g6 k hk
  · rw [u2_n1 (by omega), u2_n1 (by omega)]
theorem JJ_cpy (a : okA A) (hR : JR sh R) (h1 : JA I A) (h2 : JB I lo hi) (h3 : JT I T) (h4 : JS I) (h5 : JZ I) (h6 : CPl I A lo hi) (h7 : CRest I L A) {s t c d i j n : Nat} {G1 G : Nat → Int32} (hs : s < 4) (ht : t < 4) (hc : c = 74 + 2 * t) (hd : d = 74 + 2 * s) (hi : i + n ≤ 13) (hj : j + n ≤ 13) (hG : ∀ q, G q = if 13 * t + j ≤ q ∧ q < 13 * t + j + n then I 107 (13 * s + i + (q - (13 * t + j))) else I 107 q) : JJ sh (u1 (u1 (u1 I c (va_cpy (I d) (I c) i j n)) 108 G1) 107 G) L R := by
  subst hc; subst hd
  have e9 : ∀ a k, a ≠ 107 → a ≠ 108 → a ≠ 74 + 2 * t → u1 (u1 (u1 I (74 + 2 * t) (va_cpy (I (74 + 2 * s)) (I (74 + 2 * t)) i j n)) 108 G1) 107 G a k = I a k := fun a k q1 q2 q3 => by rw [u1_o q1, u1_o q2, u1_o q3]
  refine JJ_s a hR h1 h2 h3 h5 h6 h7 (JS_one (s := t) h4 (fun z hz e => ⟨fun k => e9 _ _ (by omega) (by omega) (by omega), fun k => e9 _ _ (by omega) (by omega) (by omega), e9 _ _ (by omega) (by omega) (by omega), e9 _ _ (by omega) (by omega) (by omega), fun k hk => ?_⟩) ?_) (fun a k c => e9 a k (by omega) (by omega) (by omega))
  · show G (13 * z + k) = _
    rw [hG, if_neg (by omega)]
  · obtain ⟨g1, g2, g3, g4, g5, g6⟩ := h4 t ht
    have gs := (h4 s hs).2.2.2.2.2
    unfold JS1
    rw [e9 _ 0 (by omega) (by omega) (by omega), e9 _ 1 (by omega) (by omega) (by omega), e9 _ 2 (by omega) (by omega) (by omega), e9 105 _ (by omega) (by omega) (by omega), e9 106 _ (by omega) (by omega) (by omega)]
    refine ⟨g1, g2, g3, g4, g5, fun k hk => ?_⟩
    have r1 : u1 (u1 (u1 I (74 + 2 * t) (va_cpy (I (74 + 2 * s)) (I (74 + 2 * t)) i j n)) 108 G1) 107 G 107 (13 * t + k) = G (13 * t + k) := if_pos rfl
    have r2 : u1 (u1 (u1 I (74 + 2 * t) (va_cpy (I (74 + 2 * s)) (I (74 + 2 * t)) i j n)) 108 G1) 107 G (74 + 2 * t) k = va_cpy (I (74 + 2 * s)) (I (74 + 2 * t)) i j n k := by
      rw [u1_o (by omega), u1_o (by omega)]
      exact if_pos rfl
    rw [r1, r2, hG]
    unfold va_cpy
    by_cases e : j ≤ k ∧ k < j + n
    · rw [if_pos (by omega), if_pos e, show 13 * s + i + (13 * t + k - (13 * t + j)) = 13 * s + (i + (k - j)) by omega]
      exact gs _ (by omega)
    · rw [if_neg (by omega), if_neg e]
      exact g6 k hk
theorem tap_c {c e f T n k : Nat} {w : Int64} (h : c ≠ e) : tapI I c e f T w n n c k = if T ≤ k ∧ k < T + n then byI w (n - 1 - (k - T)) else I c k := by
  unfold tapI
  rw [u2_n1 h]
  exact if_pos rfl
theorem JJ_typ (a : okA A) (hR : JR sh R) (h1 : JA I A) (h2 : JB I lo hi) (h3 : JT I T) (h4 : JS I) (h5 : JZ I) (h6 : CPl I A lo hi) (h7 : CRest I L A) {w : Int64} {n : Nat} (hT : T + n ≤ 120) (hw : ∀ k, k < n → isW (byI w k) 32 126 = true) : JJ sh (tapI (tapI I 12 0 3 T w n n) 88 81 9 T w n n) L R := by
  have e9 : ∀ a k, a ≠ 12 → a ≠ 88 → (a ≠ 0 ∨ k ≠ 3) → (a ≠ 81 ∨ k ≠ 9) → tapI (tapI I 12 0 3 T w n n) 88 81 9 T w n n a k = I a k := fun a k q1 q2 q3 q4 => by
    rw [tapI_o q2 q4, tapI_o q1 q3]
  have r1 : ∀ k, tapI (tapI I 12 0 3 T w n n) 88 81 9 T w n n 12 k = if T ≤ k ∧ k < T + n then byI w (n - 1 - (k - T)) else I 12 k := fun k => by
    rw [tapI_o (by omega) (by omega), tap_c (by decide)]
  have r2 : ∀ k, tapI (tapI I 12 0 3 T w n n) 88 81 9 T w n n 88 k = if T ≤ k ∧ k < T + n then byI w (n - 1 - (k - T)) else I 88 k := fun k => by
    rw [tap_c (by decide), tapI_o (by omega) (by omega)]
  refine ⟨A, lo, hi, T + n, a, hR, JA_fr h1 (fun a k c => e9 a k (by omega) (by omega) (by omega) (by omega)), JB_fr h2 (fun a k c => e9 a k (by omega) (by omega) (by omega) (by omega)), ⟨?_, ?_, hT, fun k => ?_, fun k hk => ?_⟩, JS_fr h4 (fun a k c => e9 a k (by omega) (by omega) (by omega) (by omega)), JZ_fr h5 (fun a k c => e9 a k (by omega) (by omega) (by omega) (by omega)), JP_fr h6 (fun a k c => e9 a k (by omega) (by omega) (by omega) (by omega)), CRest_fr h7 (fun a k _ _ => e9 a k (by omega) (by omega) (by omega) (by omega)) (fun k _ => e9 0 k (by omega) (by omega) (by omega) (by omega)) (fun _ _ _ _ => rfl)⟩
  · rw [tapI_o (by decide) (by decide)]
    unfold tapI
    exact u2_s
  · unfold tapI
    exact u2_s
  · rw [r1, r2, h3.2.2.2.1 k]
  · rw [r2]
    by_cases c : T ≤ k ∧ k < T + n
    · rw [if_pos c]
      intro q
      have := k_isW (c := 32) (d := 126) (hw (n - 1 - (k - T)) (by omega)) rfl rfl
      rw [q, z0I] at this
      omega
    · rw [if_neg c]
      exact h3.2.2.2.2 k (by omega)
theorem allB_cg {f g : Nat → Bool} : ∀ n, (∀ k, k < n → f k = g k) → allB f n = allB g n
  | 0, _ => rfl
  | n + 1, h => by simp only [allB, allB_cg n (fun k hk => h k (by omega)), h n (by omega)]
end J4
