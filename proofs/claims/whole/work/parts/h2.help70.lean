/-! helpers of the constructors' walks -/
theorem get_app {sh ks : Sh} {b : Nat} {k : Kd} (h : sh[b]? = some k) : (sh ++ ks)[b]? = some k := by
  rw [List.getElem?_append_left (List.getElem?_eq_some_iff.mp h).1]
  exact h
theorem get_new {sh : Sh} {m : Nat} {k : Kd} (h : sh.length = m) : (sh ++ [k])[m]? = some k := by
  subst h
  rw [List.getElem?_append_right (Nat.le_refl _), Nat.sub_self]
  rfl
theorem len_app {sh : Sh} {m : Nat} {k : Kd} (h : sh.length = m) : (sh ++ [k]).length = m + 1 := by
  rw [List.length_append, h]
  rfl
theorem len_app5 {sh : Sh} {m : Nat} (h : sh.length = m) : (sh ++ nK5).length = m + 5 := by
  rw [List.length_append, h]
  rfl
theorem rok_nil {n : Nat} : ∀ v ∈ ([] : List Value), px_rok n v := fun v h => absurd h List.not_mem_nil
theorem rok_r {n i : Nat} {st : List Value} (h : i < n) (hs : ∀ v ∈ st, px_rok n v) : ∀ v ∈ Value.ref i :: st, px_rok n v := fun v hv => by
  rcases List.mem_cons.mp hv with e | hv
  · rw [e]; exact Or.inl h
  · exact hs v hv
theorem rok_i {n : Nat} {x : Int32} {st : List Value} (hs : ∀ v ∈ st, px_rok n v) : ∀ v ∈ Value.int x :: st, px_rok n v := fun v hv => by
  rcases List.mem_cons.mp hv with e | hv
  · rw [e]; exact trivial
  · exact hs v hv
theorem rokl_nil {n : Nat} : ∀ q ∈ ([] : List (Nat × Value)), px_rok n q.2 := fun v h => absurd h List.not_mem_nil
theorem rokl_r {n i a : Nat} {lv : List (Nat × Value)} (h : i < n) (hs : ∀ q ∈ lv, px_rok n q.2) : ∀ q ∈ (a, Value.ref i) :: lv, px_rok n q.2 := fun v hv => by
  rcases List.mem_cons.mp hv with e | hv
  · rw [e]; exact Or.inl h
  · exact hs v hv
theorem rokl_9 {n i a : Nat} {lv : List (Nat × Value)} (h : 999 ≤ i) (hs : ∀ q ∈ lv, px_rok n q.2) : ∀ q ∈ (a, Value.ref i) :: lv, px_rok n q.2 := fun v hv => by
  rcases List.mem_cons.mp hv with e | hv
  · rw [e]; exact Or.inr h
  · exact hs v hv
theorem rokl_i {n a : Nat} {x : Int32} {lv : List (Nat × Value)} (hs : ∀ q ∈ lv, px_rok n q.2) : ∀ q ∈ (a, Value.int x) :: lv, px_rok n q.2 := fun v hv => by
  rcases List.mem_cons.mp hv with e | hv
  · rw [e]; exact trivial
  · exact hs v hv
theorem PKn.ret {X : PX} {q k n : Nat} {lv : List (Nat × Value)} {st : List Value} {sh : Sh} {I : IM} {L : LM} {R : RM} {v : Option Value} (kk : PW X q lv (v.toList ++ st) sh I L R k n) : PKn X q lv st k n (pRet v sh I L R) := by
  intro r sh' I' L' R' h
  obtain ⟨rfl, rfl, rfl, rfl, rfl⟩ := h
  exact kk
theorem u1_o {α : Type} {f : Nat → Nat → α} {c i : Nat} {g : Nat → α} (h : i ≠ c) : u1 f c g i = f i := funext fun _ => if_neg h
theorem u2_o {α : Type} {f : Nat → Nat → α} {c i k : Nat} {v : α} (h : i ≠ c) : u2 f c k v i = f i := funext fun _ => if_neg (fun q => h q.1)
abbrev kI (N : Nat) : Kd := .inr (.int, N)
abbrev kL (N : Nat) : Kd := .inr (.long, N)
abbrev kB (N : Nat) : Kd := .inr (.byte, N)
abbrev kQ (N : Nat) : Kd := .inr (.object RX6, N)
abbrev kO (c : Nat) : Kd := .inl c
theorem ltA {n C k : Nat} (h : n + C ≤ 900) (hk : k ≤ C) : n + k < 999 := by omega
theorem ltA0 {n C : Nat} (h : n + C ≤ 900) : n < 999 := by omega
theorem ltB {b n k : Nat} (h : b < n) : b < n + k := by omega
theorem ltC {n C D k : Nat} (h : n + C ≤ 900) (hk : k + D ≤ C) : n + k + D ≤ 900 := by omega
theorem ltC0 {n C D : Nat} (h : n + C ≤ 900) (hk : D ≤ C) : n + D ≤ 900 := by omega
theorem ltN {n k : Nat} (h : 0 < k) : n < n + k := by omega
theorem neB {b n k : Nat} (h : b < n) : b ≠ n + k := by omega
theorem neB0 {b n : Nat} (h : b < n) : b ≠ n := by omega
