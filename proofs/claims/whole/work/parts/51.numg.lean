/-! NUMBERS, 7: how great what bends is; determinants' sizes -/
section SEQ
variable {S : Nat → Rat} {K : Rat}
theorem seq_D (h0 : inQ (S 1 - S 0) K) (hd : ∀ y, y + 2 ≤ 12 → inQ (S (y + 2) - 2 * S (y + 1) + S y) (6 * K)) : ∀ y : Nat, y < 12 → inQ (S (y + 1) - S y) ((6 * y + 1) * K)
  | 0, _ => by
    refine inQ_le h0 ?_
    have : ((0 : Nat) : Rat) = 0 := rfl
    rw [this]
    grind
  | y + 1, hy => by
    have ih := seq_D h0 hd y (by omega)
    have e := hd y (by omega)
    have c := cast_s y
    have := inQ_add ih e
    unfold inQ at *
    rw [c]
    constructor <;> grind
theorem seq_S (h00 : S 0 = 0) (h0 : inQ (S 1 - S 0) K) (hd : ∀ y, y + 2 ≤ 12 → inQ (S (y + 2) - 2 * S (y + 1) + S y) (6 * K)) : ∀ y : Nat, y ≤ 12 → inQ (S y) (3 * (y * y) * K)
  | 0, _ => by
    rw [h00]
    refine inQ_0 ?_
    have : ((0 : Nat) : Rat) = 0 := rfl
    rw [this]
    grind
  | y + 1, hy => by
    have ih := seq_S h00 h0 hd y (by omega)
    have e := seq_D h0 hd y (by omega)
    have c := cast_s y
    have hK : 0 ≤ K := by
      unfold inQ at h0
      grind
    have hy0 := p_ge y
    have := Rat.mul_nonneg hy0 hK
    have := inQ_add ih e
    unfold inQ at *
    rw [c]
    constructor <;> grind
/-- differences of differences -/
theorem seq_DD (hd : ∀ y, y + 2 ≤ 12 → inQ (S (y + 2) - 2 * S (y + 1) + S y) (6 * K)) (y : Nat) : ∀ d : Nat, y + d < 12 → inQ ((S (y + d + 1) - S (y + d)) - (S (y + 1) - S y)) (6 * d * K)
  | 0, _ => by
    have : ((0 : Nat) : Rat) = 0 := rfl
    rw [this]
    unfold inQ
    simp only [Nat.add_zero]
    grind
  | d + 1, h => by
    have ih := seq_DD hd y d (by omega)
    have e := hd (y + d) (by omega)
    have c := cast_s d
    have := inQ_add ih e
    unfold inQ at *
    simp only [← Nat.add_assoc] at *
    rw [c]
    constructor <;> grind
theorem seq_DD2 (hK : 0 ≤ K) (hd : ∀ y, y + 2 ≤ 12 → inQ (S (y + 2) - 2 * S (y + 1) + S y) (6 * K)) {y z : Nat} (hy : y < 12) (hz : z < 12) : inQ ((S (y + 1) - S y) - (S (z + 1) - S z)) (66 * K) := by
  rcases Nat.le_total z y with c | c
  · obtain ⟨d, rfl⟩ : ∃ d, y = z + d := ⟨y - z, by omega⟩
    refine inQ_le (seq_DD hd z d hy) ?_
    have : (d : Rat) ≤ 11 := by
      have : ((d : Int) : Rat) ≤ ((11 : Int) : Rat) := by
        rw [Rat.intCast_le_intCast]
        omega
      exact this
    have := Rat.mul_le_mul_of_nonneg_right this hK
    grind
  · obtain ⟨d, rfl⟩ : ∃ d, z = y + d := ⟨z - y, by omega⟩
    have e := inQ_neg (seq_DD hd y d hz)
    have : (d : Rat) ≤ 11 := by
      have : ((d : Int) : Rat) ≤ ((11 : Int) : Rat) := by
        rw [Rat.intCast_le_intCast]
        omega
      exact this
    have := Rat.mul_le_mul_of_nonneg_right this hK
    unfold inQ at *
    constructor <;> grind
/-- a sum of differences against one of them -/
theorem seq_A (hK : 0 ≤ K) (hd : ∀ y, y + 2 ≤ 12 → inQ (S (y + 2) - 2 * S (y + 1) + S y) (6 * K)) {z : Nat} (hz : z < 12) (a : Nat) : ∀ m : Nat, a + m ≤ 12 → inQ (m * (S (z + 1) - S z) - (S (a + m) - S a)) (m * (66 * K))
  | 0, _ => by
    have : ((0 : Nat) : Rat) = 0 := rfl
    rw [this]
    unfold inQ
    simp only [Nat.add_zero]
    grind
  | m + 1, h => by
    have ih := seq_A hK hd hz a m (by omega)
    have e := seq_DD2 hK hd hz (show a + m < 12 by omega)
    have c := cast_s m
    have := inQ_add ih e
    unfold inQ at *
    simp only [← Nat.add_assoc] at *
    rw [c]
    constructor <;> grind
theorem seq_E (hK : 0 ≤ K) (hd : ∀ y, y + 2 ≤ 12 → inQ (S (y + 2) - 2 * S (y + 1) + S y) (6 * K)) {a m : Nat} (hb : a + m ≤ 12) (p : Nat) : ∀ d : Nat, p + d ≤ 12 → inQ (m * (S (p + d) - S p) - d * (S (a + m) - S a)) (d * (m * (66 * K)))
  | 0, _ => by
    have : ((0 : Nat) : Rat) = 0 := rfl
    rw [this]
    unfold inQ
    simp only [Nat.add_zero]
    grind
  | d + 1, h => by
    have ih := seq_E hK hd hb p d (by omega)
    have e := seq_A hK hd (show p + d < 12 by omega) a m hb
    have c := cast_s d
    have := inQ_add ih e
    unfold inQ at *
    simp only [← Nat.add_assoc] at *
    rw [c]
    constructor <;> grind
/-- how far it goes from the straight line through two of its points -/
theorem seq_line (hK : 0 ≤ K) (hd : ∀ y, y + 2 ≤ 12 → inQ (S (y + 2) - 2 * S (y + 1) + S y) (6 * K)) {a b p : Nat} (hab : a ≤ b) (hb : b ≤ 12) (hp : p ≤ 12) : inQ (((b : Rat) - a) * (S p - S a) - ((p : Rat) - a) * (S b - S a)) (((b : Rat) - a) * (792 * K)) := by
  obtain ⟨m, rfl⟩ : ∃ m, b = a + m := ⟨b - a, by omega⟩
  have cm : ((a + m : Nat) : Rat) = (a : Rat) + m := Rat.natCast_add a m
  have em : ((a + m : Nat) : Rat) - a = m := by grind
  have hm := p_ge m
  have hmK := Rat.mul_nonneg hm hK
  have hl : ∀ d : Nat, d ≤ 12 → (d : Rat) * (m * (66 * K)) ≤ m * (792 * K) := fun d hd2 => by
    have h1 := p_le (p := d) (by omega)
    have := Rat.mul_le_mul_of_nonneg_right h1 hmK
    grind
  rw [em]
  rcases Nat.le_total a p with c | c
  · obtain ⟨d, rfl⟩ : ∃ d, p = a + d := ⟨p - a, by omega⟩
    have cd : ((a + d : Nat) : Rat) - a = d := by
      have : ((a + d : Nat) : Rat) = (a : Rat) + d := Rat.natCast_add a d
      grind
    rw [cd]
    exact inQ_le (seq_E hK hd hb a d hp) (hl d (by omega))
  · obtain ⟨d, rfl⟩ : ∃ d, a = p + d := ⟨a - p, by omega⟩
    have cd : ((p : Nat) : Rat) - ((p + d : Nat) : Rat) = -d := by
      have : ((p + d : Nat) : Rat) = (p : Rat) + d := Rat.natCast_add p d
      grind
    rw [cd]
    have := inQ_neg (seq_E hK hd hb p d (by omega))
    refine inQ_le (a := (d : Rat) * (m * (66 * K))) ?_ (hl d (by omega))
    unfold inQ at *
    constructor <;> grind
end SEQ
section NH
variable {s h w T : Nat → Rat} {X : Nat → Nat} {F H : Rat} {N : Nat}
theorem S_step (a : isN (fun k => (X k : Rat)) s h w F H N) (hT : cT s N T) (y : Nat) (hy : y + 2 ≤ 12) : inQ (SQ (ldQ (fun k => (X k : Rat)) s h w T F N) (fun k => (X k : Rat)) w (N + 2) ((y + 2 : Nat) : Rat) - 2 * SQ (ldQ (fun k => (X k : Rat)) s h w T F N) (fun k => (X k : Rat)) w (N + 2) ((y + 1 : Nat) : Rat) + SQ (ldQ (fun k => (X k : Rat)) s h w T F N) (fun k => (X k : Rat)) w (N + 2) (y : Rat)) (6 * KM H) := by
  rw [S_dd]
  have m0 := M_in (y := (y : Rat)) a hT (p_le (by omega))
  have m1 := M_in (y := ((y + 1 : Nat) : Rat)) a hT (p_le (by omega))
  have m2 := M_in (y := ((y + 2 : Nat) : Rat)) a hT (p_le (by omega))
  unfold inQ at *
  constructor <;> grind
theorem KM_nn (a : isN (fun k => (X k : Rat)) s h w F H N) : 0 ≤ KM H := by
  have := a.2.2.2.2.2.2.2.2
  unfold KM
  grind
theorem S_10 (a : isN (fun k => (X k : Rat)) s h w F H N) (hT : cT s N T) : inQ (SQ (ldQ (fun k => (X k : Rat)) s h w T F N) (fun k => (X k : Rat)) w (N + 2) ((1 : Nat) : Rat) - SQ (ldQ (fun k => (X k : Rat)) s h w T F N) (fun k => (X k : Rat)) w (N + 2) ((0 : Nat) : Rat)) (KM H) := by
  rw [S_0, S_1]
  have m1 := M_in (y := ((1 : Nat) : Rat)) a hT (p_le (by omega))
  unfold inQ at *
  constructor <;> grind
theorem S_in (a : isN (fun k => (X k : Rat)) s h w F H N) (hT : cT s N T) {y : Nat} (hy : y ≤ 12) : inQ (SQ (ldQ (fun k => (X k : Rat)) s h w T F N) (fun k => (X k : Rat)) w (N + 2) (y : Rat)) (432 * KM H) := by
  have e := seq_S (S := fun y => SQ (ldQ (fun k => (X k : Rat)) s h w T F N) (fun k => (X k : Rat)) w (N + 2) (y : Rat)) (K := KM H) S_0 (S_10 a hT) (S_step a hT) y hy
  refine inQ_le e ?_
  have h1 := p_le (p := y) (by omega)
  have h0 := p_ge y
  have h2 := Rat.mul_le_mul_of_nonneg_left h1 h0
  have h3 : (y : Rat) * y ≤ 144 := by grind
  have := Rat.mul_le_mul_of_nonneg_right h3 (KM_nn a)
  grind
theorem S_line (a : isN (fun k => (X k : Rat)) s h w F H N) (hT : cT s N T) {p : Nat} (hp : p ≤ 12) : inQ (((X 1 : Rat) - X 0) * (SQ (ldQ (fun k => (X k : Rat)) s h w T F N) (fun k => (X k : Rat)) w (N + 2) (p : Rat) - SQ (ldQ (fun k => (X k : Rat)) s h w T F N) (fun k => (X k : Rat)) w (N + 2) (X 0 : Rat)) - ((p : Rat) - X 0) * (SQ (ldQ (fun k => (X k : Rat)) s h w T F N) (fun k => (X k : Rat)) w (N + 2) (X 1 : Rat) - SQ (ldQ (fun k => (X k : Rat)) s h w T F N) (fun k => (X k : Rat)) w (N + 2) (X 0 : Rat))) (((X 1 : Rat) - X 0) * (792 * KM H)) := by
  have h1 := isX_le a.1 (show 0 ≤ 1 by omega) (show 1 ≤ N + 1 by omega)
  have h2 := (isN_x a (show 1 ≤ N + 1 by omega)).2
  have h1 : ((X 0 : Int) : Rat) ≤ ((X 1 : Int) : Rat) := h1
  have h2 : ((X 1 : Int) : Rat) ≤ ((12 : Int) : Rat) := h2
  rw [Rat.intCast_le_intCast] at h1 h2
  exact seq_line (S := fun y => SQ (ldQ (fun k => (X k : Rat)) s h w T F N) (fun k => (X k : Rat)) w (N + 2) (y : Rat)) (KM_nn a) (S_step a hT) (by omega) (by omega) hp
theorem sq2_0 {v : Rat} (h : v ≤ 0) : sq2 v = 0 := if_pos h
theorem q_in (a : isN (fun k => (X k : Rat)) s h w F H N) (hT : cT s N T) : ∀ y : Nat, y ≤ 12 → inQ (qQ (ldQ (fun k => (X k : Rat)) s h w T F N) (fun k => (X k : Rat)) w (N + 2) (y : Rat)) (2 * y * KM H)
  | 0, _ => by
    have e0 : ((0 : Nat) : Rat) = 0 := rfl
    unfold qQ
    rw [sQ_zero (fun k _ => by
      have := p_ge (X k)
      rw [sq2_0 (show (((0 : Nat) : Rat) - X k) ≤ 0 by grind)]
      grind), sQ_zero (fun k _ => by
      have := p_ge k
      rw [sq2_0 (show (((0 : Nat) : Rat) - k) ≤ 0 by grind)]
      grind)]
    rw [e0]
    unfold inQ
    constructor <;> grind
  | y + 1, hy => by
    have ih := q_in a hT y (by omega)
    have e := q_d (r := ldQ (fun k => (X k : Rat)) s h w T F N) (w := w) (X := X) (n := N + 2) y
    have m0 := M_in (y := (y : Rat)) a hT (p_le (by omega))
    have m1 := M_in (y := ((y + 1 : Nat) : Rat)) a hT (p_le (by omega))
    have c := cast_s y
    unfold inQ at *
    rw [c] at *
    constructor <;> grind
/-- loads -/
theorem ld_in (a : isN (fun k => (X k : Rat)) s h w F H N) (hT : cT s N T) {i : Nat} (hi : i ≤ N + 1) : inQ (ldQ (fun k => (X k : Rat)) s h w T F N i) (4 * KM H) := by
  have hH := a.2.2.2.2.2.2.2.2
  have hX := a.1
  unfold ldQ
  have e1 : inQ (sQ (fun p => w p * hatQ (fun k => (X k : Rat)) s N i p) 13) (650 * 1) := w_sum a.2.2.2.2.1 (fun p _ => by
    have er : ∀ k, k ≤ N → 0 ≤ rdQ (fun k => (X k : Rat)) s k p ∧ rdQ (fun k => (X k : Rat)) s k p ≤ 1 := fun k hk => by
      have hs := hX.1 k
      have hn : s k ≠ 0 := by grind
      have hx : (X (k + 1) : Rat) = X k + s k := hX.2 k hk
      unfold rdQ
      split
      · grind
      · split
        · grind
        · rename_i c1 c2
          have e := Rat.div_mul_cancel (a := (X (k + 1) : Rat) - p) hn
          constructor
          · refine Rat.le_of_mul_le_mul_right (c := s k) ?_ hs
            rw [e]
            grind
          · refine Rat.le_of_mul_le_mul_right (c := s k) ?_ hs
            rw [e]
            grind
    unfold hatQ
    have e3 : 0 ≤ (if i ≤ N then rdQ (fun k => (X k : Rat)) s i p else 1) ∧ (if i ≤ N then rdQ (fun k => (X k : Rat)) s i p else 1) ≤ 1 := by
      split
      · rename_i c
        exact er i c
      · grind
    have e4 : 0 ≤ (if i = 0 then 0 else rdQ (fun k => (X k : Rat)) s (i - 1) p) ∧ (if i = 0 then 0 else rdQ (fun k => (X k : Rat)) s (i - 1) p) ≤ 1 := by
      split
      · grind
      · exact er (i - 1) (by omega)
    unfold inQ
    constructor <;> grind) (by grind)
  have e2 : inQ (dd s N (momQ (fun k => (X k : Rat)) s h w T F N) i) (2 * KN H + 2 * KN H) := by
    unfold dd
    refine inQ_sub ?_ ?_
    · split
      · rename_i c
        exact inQ_le (div_in (inQ_sub (mom_in a hT (by omega)) (mom_in a hT hi)) (a.2.1 i)) (by grind)
      · exact inQ_0 (by unfold KN; grind)
    · split
      · exact inQ_0 (by unfold KN; grind)
      · exact inQ_le (div_in (inQ_sub (mom_in a hT hi) (mom_in a hT (by omega))) (a.2.1 _)) (by grind)
  refine inQ_le (inQ_add e1 e2) ?_
  unfold KM KN
  grind
end NH
