theorem insP_N {f : Nat → Int32} {q : Nat → Nat} {n p : Nat} (hp : p < 13) (hq : incN q n) (hf : ∀ k, k < n → f k = nI (q k)) (hno : ∀ k, k < n → q k ≠ p) : ∀ t, t ≤ n → insP f (nI p) t = cntN q p t
  | 0, _ => rfl
  | t + 1, h => by
    have ih := insP_N hp hq hf hno t (by omega)
    have h13 := hq.1 t (by omega)
    have hlt : nI p < f t ↔ p < q t := by
      rw [hf t (by omega), Int32.lt_iff_toInt_lt, nI_toInt (by omega), nI_toInt (by omega)]
      omega
    simp only [insP]
    by_cases c : p < q t
    · rw [if_pos (hlt.mpr c), ih]
      simp only [cntN]
      rw [if_neg (by omega)]
      rfl
    · rw [if_neg (fun g => c (hlt.mp g))]
      have hne := hno t (by omega)
      have := (cntN_inc (p := p) hq (t + 1) h t (by omega)).mp (by omega)
      have := cntN_le (f := q) (p := p) (t + 1)
      omega
theorem okI_un {S : SL3} {p : Nat} {v : Int} (h : okI (insT S (p, v))) : okI S ∧ (∀ k, k < S.1 → S.2.1 k ≠ p) ∧ p < 13 ∧ S.1 < 6 := by
  obtain ⟨n, q, o⟩ := S
  obtain ⟨h6, hq, ho⟩ := h
  have h6 : n + 1 ≤ 6 := h6
  have hm : cntN q p n ≤ n := cntN_le n
  have hlo : ∀ k, k < cntN q p n → insG q (cntN q p n) p k = q k := fun k hk => insG_lt hk
  have hhi : ∀ k, cntN q p n ≤ k → insG q (cntN q p n) p (k + 1) = q k := fun k hk => insG_gt (by omega)
  have hmd : insG q (cntN q p n) p (cntN q p n) = p := insG_m
  have hq1 : ∀ k, k < n + 1 → insG q (cntN q p n) p k < 13 := hq.1
  have hlt : ∀ i d, i + d + 1 < n + 1 → insG q (cntN q p n) p i < insG q (cntN q p n) p (i + d + 1) := fun i d hd => incN_lt (i := i) (n := n + 1) hq d hd
  have ho1 : ∀ k, k < n + 1 → -50 ≤ insG o (cntN q p n) v k ∧ insG o (cntN q p n) v k ≤ 50 := ho
  refine ⟨⟨by show n ≤ 6; omega, ⟨fun k hk => ?_, fun k hk => ?_⟩, fun k hk => ?_⟩, fun k hk e => ?_, ?_, by show n < 6; omega⟩
  · have hk : k < n := hk
    show q k < 13
    rcases Nat.lt_or_ge k (cntN q p n) with c | c
    · rw [← hlo k c]; exact hq1 k (by omega)
    · rw [← hhi k c]; exact hq1 (k + 1) (by omega)
  · have hk : k + 1 < n := hk
    show q k < q (k + 1)
    rcases Nat.lt_trichotomy (k + 1) (cntN q p n) with c | c | c
    · rw [← hlo k (by omega), ← hlo (k + 1) c]; exact hlt k 0 (by omega)
    · rw [← hlo k (by omega), ← hhi (k + 1) (by omega)]; exact hlt k 1 (by omega)
    · rw [← hhi k (by omega), ← hhi (k + 1) (by omega)]; exact hlt (k + 1) 0 (by omega)
  · have hk : k < n := hk
    show -50 ≤ o k ∧ o k ≤ 50
    rcases Nat.lt_or_ge k (cntN q p n) with c | c
    · have := ho1 k (by omega); rw [insG_lt c] at this; exact this
    · have := ho1 (k + 1) (by omega); rw [insG_gt (by omega)] at this; exact this
  · have hk : k < n := hk
    have e : q k = p := e
    rcases Nat.lt_or_ge k (cntN q p n) with c | c
    · have := hlt k (cntN q p n - k - 1) (by omega)
      rw [show k + (cntN q p n - k - 1) + 1 = cntN q p n by omega, hmd, hlo k c] at this
      omega
    · have := hlt (cntN q p n) (k - cntN q p n) (by omega)
      rw [show cntN q p n + (k - cntN q p n) + 1 = k + 1 by omega, hmd, hhi k c] at this
      omega
  · have := hq1 (cntN q p n) (by omega)
    rw [hmd] at this
    exact this
theorem foldI_len : ∀ (bs : List (Nat × Int)) (S : SL3), (bs.foldl insT S).1 = S.1 + bs.length
  | [], S => rfl
  | x :: bs, S => by
    rw [List.foldl_cons, foldI_len bs (insT S x), List.length_cons]
    show S.1 + 1 + bs.length = _
    omega
theorem foldI_l {bs : List (Nat × Int)} : (foldI bs).1 = bs.length := (foldI_len bs _).trans (Nat.zero_add _)
theorem take_s {bs : List (Nat × Int)} {b : Nat} {x : Nat × Int} (h : bs[b]? = some x) : bs.take (b + 1) = bs.take b ++ [x] := by
  rw [List.take_add_one, h]
  rfl
theorem okI_take {bs : List (Nat × Int)} (h : okI (foldI bs)) : ∀ d b, b + d = bs.length → okI (foldI (bs.take b))
  | 0, b, hd => by rw [List.take_of_length_le (by omega)]; exact h
  | d + 1, b, hd => by
    have ih := okI_take h d (b + 1) (by omega)
    obtain ⟨x, ex⟩ : ∃ x, bs[b]? = some x := ⟨_, List.getElem?_eq_getElem (by omega)⟩
    rw [take_s ex, foldI_s] at ih
    exact (okI_un ih).1
/-- a bearing put, on the rows of the model -/
def LinZ (I : IM) (m : Nat) (S : SL3) : Prop := LinS I m S ∧ ∀ k, k < S.1 → I (m + 3) k = 0 ∧ I (m + 4) k = 0
theorem linM_ins {I : IM} {m : Nat} {S : SL3} {p : Nat} {v : Int32} (h : LinZ I m S) (hk : okI (insT S (p, v.toInt))) : LinZ (insM I m S.1 (nI p) v) m (insT S (p, v.toInt)) := by
  obtain ⟨hS, hno, hp, h6⟩ := okI_un hk
  obtain ⟨⟨a0, a1, a2⟩, a3⟩ := h
  obtain ⟨n, q, o⟩ := S
  have hc : insP (I (m + 1)) (nI p) n = cntN q p n := insP_N hp hS.2.1 a1 hno n (Nat.le_refl _)
  have hm : cntN q p n ≤ n := cntN_le n
  unfold insM
  rw [hc]
  refine ⟨⟨u2_s, fun k hk => ?_, fun k hk => ?_⟩, fun k hk => ?_⟩
  · have hk : k < n + 1 := hk
    rw [u2_n1 (by omega), m4_1, insF_G hm (by omega)]
    exact insG_map (r := fun a c => a = nI c) (n := n) a1 rfl hm hk
  · have hk : k < n + 1 := hk
    rw [u2_n1 (by omega), m4_2, insF_G hm (by omega)]
    exact insG_map (r := fun (a : Int32) c => a.toInt = c) (n := n) a2 rfl hm hk
  · have hk : k < n + 1 := hk
    rw [u2_n1 (by omega), m4_3, u2_n1 (by omega), m4_4, insF_G hm (by omega), insF_G hm (by omega)]
    exact ⟨insG_map (r := fun (a : Int32) (c : Int32) => a = c) (g := fun _ => 0) (y := 0) (n := n) (fun k hk => (a3 k hk).1) rfl hm hk |>.trans (by unfold insG; split <;> simp), insG_map (r := fun (a : Int32) (c : Int32) => a = c) (g := fun _ => 0) (y := 0) (n := n) (fun k hk => (a3 k hk).2) rfl hm hk |>.trans (by unfold insG; split <;> simp)⟩
theorem insM_fr {I : IM} {m n : Nat} {p v : Int32} {c k : Nat} (h : c < m ∨ (c = m ∧ k ≠ 0) ∨ m + 4 < c) : insM I m n p v c k = I c k := by
  unfold insM
  rcases h with h | ⟨h, h2⟩ | h
  · rw [u2_n1 (by omega), m4_5 (by omega)]
  · rw [h, u2_n2 h2, m4_0]
  · rw [u2_n1 (by omega), m4_5 (by omega)]
/-- more clauses, or none -/
def finM (I I2 : IM) (m T : Nat) (s0 : Int32) : Prop := (I2 m 11 = 1 ∧ ∃ e, I2 m 10 = nI e ∧ pTx (I (m + 7)) T 19 0 dr0 = (e, none)) ∨ (I2 m 11 = 0 ∧ ∃ b e D, RdM I2 m T b s0 D ∧ skB (I (m + 7)) b T = skB (I (m + 7)) e T ∧ (T ≤ skB (I (m + 7)) e T → pTx (I (m + 7)) T 19 0 dr0 = (e, some D)) ∧ (¬ T ≤ skB (I (m + 7)) e T → pTx (I (m + 7)) T 19 0 dr0 = (skB (I (m + 7)) e T, none)))
def lpM (I I2 : IM) (m T k : Nat) (s0 : Int32) (mo : Int32) : Prop := frM m I I2 ∧ ((mo = 1 ∧ k < 20 ∧ ∃ a D, RdM I2 m T a s0 D ∧ pTx (I (m + 7)) T (19 - k) a D = pTx (I (m + 7)) T 19 0 dr0) ∨ (mo = 0 ∧ finM I I2 m T s0))
def reaM (sh : Sh) (I : IM) (L : LM) (R : RM) (m T : Nat) : PPost := fun ret sh' I' L' R' => sh' = sh ∧ R' = R ∧ L' = L ∧ I' m 9 = 0 ∧ (∀ a k, (a < m ∨ m + 10 < a ∨ (a = m ∧ k ≠ 0 ∧ k ≠ 7 ∧ k ≠ 9 ∧ k ≠ 10 ∧ k ≠ 11 ∧ k ≠ 12 ∧ k ≠ 16) ∨ a = m + 6 ∨ a = m + 7) → I' a k = I a k) ∧
  ((∃ e D', pTx (I (m + 7)) T 19 0 dr0 = (e, some D') ∧ okD D' ∧ ret = some (.int (nI (foldI D'.1).1)) ∧ LinZ I' m (foldI D'.1) ∧ (∀ p, p < 13 → (I' (m + 5) p).toInt = D'.2.1 p) ∧ ((I' m 7).toInt = if 0 < D'.2.2 then D'.2.2 else (I m 7).toInt)) ∨
   (∃ e, pTx (I (m + 7)) T 19 0 dr0 = (e, none) ∧ ret = some (.int (-20 - nI e)) ∧ I' m 0 = I m 0 ∧ I' m 7 = I m 7 ∧ ∀ a k, m < a → a < m + 6 → I' a k = I a k))
