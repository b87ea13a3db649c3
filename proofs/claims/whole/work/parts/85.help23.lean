/-! the class's reader (cell 13, its draft at 14, the tape at 12) -/
def DraftC (I : IM) (D : DR) : Prop := I 14 0 = nI (foldI D.1).1 ∧ (∀ k, k < (foldI D.1).1 → I 15 k = nI ((foldI D.1).2.1 k)) ∧ (∀ k, k < (foldI D.1).1 → (I 16 k).toInt = (foldI D.1).2.2 k) ∧ (∀ p, p < 13 → (I 19 p).toInt = D.2.1 p) ∧ (I 14 6).toInt = D.2.2
def RdI (I : IM) (T a : Nat) (D : DR) : Prop := I 13 2 = nI T ∧ I 13 3 = nI a ∧ a ≤ T ∧ T ≤ 120 ∧ okD D ∧ DraftC I D
def frD (I I' : IM) : Prop := ∀ a k, (a < 13 ∨ 19 < a) → I' a k = I a k
theorem frD_0 {I : IM} : frD I I := fun _ _ _ => rfl
theorem frD_t {I I' I'' : IM} (h1 : frD I I') (h2 : frD I' I'') : frD I I'' := fun a k c => (h2 a k c).trans (h1 a k c)
theorem frD_f {I I' : IM} (h : frD I I') : I' 12 = I 12 := funext fun k => h 12 k (by omega)
/-- nothing but the reader's own numbers -/
def frR (I I' : IM) : Prop := (∀ a k, a ≠ 13 → I' a k = I a k) ∧ I' 13 2 = I 13 2
theorem frR_D {I I' : IM} (h : frR I I') : frD I I' := fun a k c => h.1 a k (by omega)
theorem Draft_fr {I I' : IM} {D : DR} (h : DraftC I D) (f : frR I I') : DraftC I' D := by
  obtain ⟨h1, h2, h3, h4, h5⟩ := h
  refine ⟨?_, fun k hk => ?_, fun k hk => ?_, fun p hp => ?_, ?_⟩
  · rw [f.1 _ _ (by decide)]; exact h1
  · rw [f.1 _ _ (by decide)]; exact h2 k hk
  · rw [f.1 _ _ (by decide)]; exact h3 k hk
  · rw [f.1 _ _ (by decide)]; exact h4 p hp
  · rw [f.1 _ _ (by decide)]; exact h5
theorem RdI_at {I I' : IM} {T a b : Nat} {D : DR} (h : RdI I T a D) (f : frR I I') (hb : I' 13 3 = nI b) (hbT : b ≤ T) : RdI I' T b D := ⟨by rw [f.2]; exact h.1, hb, hbT, h.2.2.2.1, h.2.2.2.2.1, Draft_fr h.2.2.2.2.2 f⟩
def rdP (sh : Sh) (I : IM) (L : LM) (R : RM) (T : Nat) (r : Nat × Option DR) : PPost := fun ret sh' I' L' R' => sh' = sh ∧ R' = R ∧ L' = L ∧ frD I I' ∧ ((ret = some (.int 1) ∧ ∃ D', r.2 = some D' ∧ RdI I' T r.1 D') ∨ (ret = some (.int 0) ∧ r.2 = none ∧ I' 13 5 = nI r.1))
section RN
variable {sh sh' : Sh} {I I' : IM} {L L' : LM} {R R' : RM} {ret : Option Value} {a T : Nat} {D : DR}
theorem rn_post (h : pIf (isW (nxt (I 12) (skB (I 12) a T) T) 48 57) (pRet (some (.int (numB (I 12) T (skB (I 12) a T) 0).2)) sh (u2 (u2 I 13 3 (nI (numB (I 12) T (skB (I 12) a T) 0).1)) 13 4 (nI (skB (I 12) a T))) L R) (pRet (some (.int (-1))) sh (u2 (u2 (u2 I 13 3 (nI (skB (I 12) a T))) 13 4 (nI (skB (I 12) a T))) 13 5 (nI (skB (I 12) a T))) L R) ret sh' I' L' R') :
    sh' = sh ∧ R' = R ∧ L' = L ∧ frR I I' ∧ I' 13 4 = nI (skB (I 12) a T) ∧ ∃ v : Int32, ret = some (.int v) ∧ ((isDg (I 12) (skB (I 12) a T) T = true ∧ v.toInt = ((min (numZ (I 12) T (skB (I 12) a T)).2 1000 : Nat) : Int) ∧ I' 13 3 = nI (numZ (I 12) T (skB (I 12) a T)).1) ∨ (isDg (I 12) (skB (I 12) a T) T = false ∧ v = -1 ∧ I' 13 5 = nI (skB (I 12) a T))) := by
  rcases h with ⟨hd, e0, e1, e2, e3, e4⟩ | ⟨hd, e0, e1, e2, e3, e4⟩
  · subst e2
    refine ⟨e1, e4, e3, ⟨fun b k hb => by rw [u2_n1 hb, u2_n1 hb], by rw [u2_n2 (by decide), u2_n2 (by decide)]⟩, u2_s, _, e0, Or.inl ⟨hd, numB_Z.2, ?_⟩⟩
    rw [u2_n2 (by decide), u2_s, numB_Z.1]
  · subst e2
    exact ⟨e1, e4, e3, ⟨fun b k hb => by rw [u2_n1 hb, u2_n1 hb, u2_n1 hb], by rw [u2_n2 (by decide), u2_n2 (by decide), u2_n2 (by decide)]⟩, by rw [u2_n2 (by decide), u2_s], _, e0, Or.inr ⟨hd, rfl, u2_s⟩⟩
theorem st_post {c : Int32} (h : pIf (decide (nxt (I 12) (skB (I 12) a T) T = c)) (pRet (some (.int 1)) sh (u2 I 13 3 (nI (skB (I 12) a T + 1))) L R) (pRet (some (.int 0)) sh (u2 I 13 3 (nI (skB (I 12) a T))) L R) ret sh' I' L' R') :
    sh' = sh ∧ R' = R ∧ L' = L ∧ frR I I' ∧ ∃ bb : Bool, ret = some (.int (bI bb)) ∧ (bb = true → nxt (I 12) (skB (I 12) a T) T = c ∧ I' 13 3 = nI (skB (I 12) a T + 1)) ∧ (bb = false → ¬ nxt (I 12) (skB (I 12) a T) T = c ∧ I' 13 3 = nI (skB (I 12) a T)) := by
  rcases h with ⟨hd, e0, e1, e2, e3, e4⟩ | ⟨hd, e0, e1, e2, e3, e4⟩
  · subst e2
    exact ⟨e1, e4, e3, ⟨fun b k hb => u2_n1 hb, u2_n2 (by decide)⟩, true, e0, fun _ => ⟨of_decide_eq_true hd, u2_s⟩, fun c => by cases c⟩
  · subst e2
    exact ⟨e1, e4, e3, ⟨fun b k hb => u2_n1 hb, u2_n2 (by decide)⟩, false, e0, fun c => (by cases c), fun _ => ⟨of_decide_eq_false hd, u2_s⟩⟩
end RN
theorem nxt_lt {f : Nat → Int32} {a T : Nat} {c : Int32} (h : nxt f a T = c) (hc : ¬ c = -1) : a < T := by
  unfold nxt at h
  split at h
  · assumption
  · exact absurd h.symm hc
theorem dg_lt {f : Nat → Int32} {a T : Nat} (h : isDg f a T = true) : a < T := by
  unfold isDg nxt at h
  split at h
  · assumption
  · exact absurd h (by decide)
theorem rd_inc {I : IM} {T a : Nat} {D : DR} (h : RdI I T a D) (ha : a < T) : RdI (u2 I 13 3 (I 13 3 + 1)) T (a + 1) D ∧ frD I (u2 I 13 3 (I 13 3 + 1)) := by
  have f : frR I (u2 I 13 3 (I 13 3 + 1)) := ⟨fun b k hb => u2_n1 hb, u2_n2 (by decide)⟩
  exact ⟨RdI_at h f (by rw [u2_s, h.2.1]; exact nI_1 a) ha, frR_D f⟩
theorem min_lt {v : Int32} {V m : Nat} (h : v.toInt = ((min V 1000 : Nat) : Int)) (hm : m < 1000) : v.toInt ≤ (m : Int) ↔ V ≤ m := by omega
theorem fail_fr {I : IM} {p : Int32} : frR I (u2 I 13 5 p) := ⟨fun b k hb => u2_n1 hb, u2_n2 (by decide)⟩
/-- a draft with a new STIFFNESS, a new weight -/
theorem dr_stiff {I : IM} {D : DR} {v : Int32} {V : Nat} (h : DraftC I D) (hv : v.toInt = (V : Int)) : DraftC (u2 I 14 6 v) (D.1, D.2.1, (V : Int)) := by
  obtain ⟨h1, h2, h3, h4, h5⟩ := h
  refine ⟨by rw [u2_n2 (by decide)]; exact h1, fun k hk => by rw [u2_n1 (by decide)]; exact h2 k hk, fun k hk => by rw [u2_n1 (by decide)]; exact h3 k hk, fun p hp => by rw [u2_n1 (by decide)]; exact h4 p hp, by rw [u2_s]; exact hv⟩
theorem dr_weight {I : IM} {D : DR} {v : Int32} {V p : Nat} (h : DraftC I D) (hv : v.toInt = (V : Int)) : DraftC (u2 I 19 p v) (D.1, updZ D.2.1 p (V : Int), D.2.2) := by
  obtain ⟨h1, h2, h3, h4, h5⟩ := h
  refine ⟨by rw [u2_n1 (by decide)]; exact h1, fun k hk => by rw [u2_n1 (by decide)]; exact h2 k hk, fun k hk => by rw [u2_n1 (by decide)]; exact h3 k hk, fun x hx => ?_, by rw [u2_n1 (by decide)]; exact h5⟩
  show (u2 I 19 p v 19 x).toInt = if x = p then (V : Int) else D.2.1 x
  by_cases c : x = p
  · rw [if_pos c, c, u2_s, hv]
  · rw [if_neg c, u2_n2 c]
    exact h4 x hx
theorem okD_w {D : DR} {V p : Nat} (h : okD D) (hV : V ≤ 50) : okD (D.1, updZ D.2.1 p (V : Int), D.2.2) := by
  obtain ⟨h1, h2, h3, h4, h5⟩ := h
  refine ⟨h1, h2, h3, fun x hx => ?_, h5⟩
  show 0 ≤ (if x = p then (V : Int) else D.2.1 x) ∧ (if x = p then (V : Int) else D.2.1 x) ≤ 50
  split
  · omega
  · exact h4 x hx
theorem okD_f {D : DR} {V : Nat} (h : okD D) (hV : V ≤ 20) : okD (D.1, D.2.1, (V : Int)) := by
  obtain ⟨h1, h2, h3, h4, h5⟩ := h
  exact ⟨h1, h2, h3, h4, by show (0 : Int) ≤ (V : Int); omega, by show (V : Int) ≤ 20; omega⟩
/-- insert, on rows of a Line -/
theorem insF_G {f : Nat → Int32} {m n k : Nat} {x : Int32} (hm : m ≤ n) (hk : k ≤ n) : insF f m n x k = insG f m x k := by
  unfold insF upd shF insG
  by_cases c : k = m
  · rw [if_pos c, if_neg (by omega), if_pos c]
  · rw [if_neg c]
    by_cases d : m < k
    · rw [if_pos ⟨d, hk⟩, if_neg (by omega), if_neg c]
    · rw [if_neg (by omega), if_pos (by omega)]
theorem insG_map {α β : Type} {f : Nat → α} {g : Nat → β} {r : α → β → Prop} {m n k : Nat} {x : α} {y : β} (h : ∀ k, k < n → r (f k) (g k)) (hx : r x y) (hm : m ≤ n) (hk : k < n + 1) : r (insG f m x k) (insG g m y k) := by
  rcases Nat.lt_trichotomy k m with c | c | c
  · rw [insG_lt c, insG_lt c]
    exact h k (by omega)
  · rw [c, insG_m, insG_m]
    exact hx
  · rw [insG_gt c, insG_gt c]
    exact h (k - 1) (by omega)
/-- rows of a Line at b hold S -/
def LinS (I : IM) (b : Nat) (S : SL3) : Prop := I b 0 = nI S.1 ∧ (∀ k, k < S.1 → I (b + 1) k = nI (S.2.1 k)) ∧ ∀ k, k < S.1 → (I (b + 2) k).toInt = S.2.2 k
theorem lin_ins {I : IM} {b : Nat} {S : SL3} {p : Nat} {x v : Int32} (h : LinS I b S) (hq : ∀ k, k < S.1 → S.2.1 k < 13) (hp : p < 13) (hx : x = nI p) {g3 g4 : Nat → Int32} : LinS (u2 (m4 I b (insF (I (b + 1)) (cntL (I (b + 1)) x S.1) S.1 x) (insF (I (b + 2)) (cntL (I (b + 1)) x S.1) S.1 v) g3 g4) b 0 (nI (S.1 + 1))) b (insT S (p, v.toInt)) := by
  obtain ⟨n, q, o⟩ := S
  have hc : cntL (I (b + 1)) x n = cntN q p n := by
    rw [hx]
    exact cntL_N hp n h.2.1 hq
  have hm : cntN q p n ≤ n := cntN_le n
  refine ⟨u2_s, fun k hk => ?_, fun k hk => ?_⟩
  · have hk : k < n + 1 := hk
    show u2 _ b 0 _ (b + 1) k = nI (insG q (cntN q p n) p k)
    rw [u2_n1 (by omega), m4_1]
    show insF (I (b + 1)) (cntL (I (b + 1)) x n) n x k = _
    rw [hc, insF_G hm (by omega)]
    exact insG_map (r := fun a c => a = nI c) (n := n) h.2.1 hx hm hk
  · have hk : k < n + 1 := hk
    show Int32.toInt (u2 (α := Int32) _ b 0 _ (b + 2) k) = insG o (cntN q p n) v.toInt k
    rw [u2_n1 (by omega), m4_2]
    show (insF (I (b + 2)) (cntL (I (b + 1)) x n) n v k).toInt = _
    rw [hc, insF_G hm (by omega)]
    exact insG_map (r := fun (a : Int32) c => a.toInt = c) (n := n) h.2.2 rfl hm hk
theorem dr_bear {I : IM} {D : DR} {p : Nat} {x v : Int32} (h : DraftC I D) (hk : okD D) (hp : p < 13) (hx : x = nI p) {g3 g4 : Nat → Int32} : DraftC (u2 (m4 I 14 (insF (I (14 + 1)) (cntL (I (14 + 1)) x (foldI D.1).1) (foldI D.1).1 x) (insF (I (14 + 2)) (cntL (I (14 + 1)) x (foldI D.1).1) (foldI D.1).1 v) g3 g4) 14 0 (nI ((foldI D.1).1 + 1))) (D.1 ++ [(p, v.toInt)], D.2) := by
  have h0 : LinS I 14 (foldI D.1) := ⟨h.1, h.2.1, h.2.2.1⟩
  have := lin_ins (v := v) (g3 := g3) (g4 := g4) h0 hk.1.2.1.1 hp hx
  rw [← foldI_s] at this
  refine ⟨this.1, this.2.1, this.2.2, fun p hp => ?_, ?_⟩
  · rw [u2_n1 (by decide), m4_5 (Or.inr (by decide))]
    exact h.2.2.2.1 p hp
  · rw [u2_n2 (by decide), m4_0]
    exact h.2.2.2.2
theorem ins_frD {I : IM} {g1 g2 g3 g4 : Nat → Int32} {z : Int32} : frD I (u2 (m4 I 14 g1 g2 g3 g4) 14 0 z) := fun a k c => by rw [u2_n1 (by omega), m4_5 (by omega)]
theorem has_srch {I : IM} {D : DR} {p : Nat} (h : DraftC I D) (hk : okD D) (hp : p < 13) : (srch (I 15) (nI p) (foldI D.1).1).isNone = true ↔ hasP D.1 p = false := by
  rw [srch_Q hp h.2.1 hk.1.2.1.1]
  constructor
  · intro g
    cases e : hasP D.1 p with
    | false => rfl
    | true =>
      obtain ⟨k, hk2, e2⟩ := (hk.2.2.1 p).mp e
      exact absurd e2 (g k hk2)
  · intro g k hk2 e
    rw [(hk.2.2.1 p).mpr ⟨k, hk2, e⟩] at g
    cases g
