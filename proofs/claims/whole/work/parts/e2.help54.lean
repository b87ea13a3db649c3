/-! DQ clears every LOAD's denominator: the class's solve, on a memory made up for it -/
theorem exRI_s {f : Nat → Rat} : ∀ n, (∀ p, p < n → ∃ x, RI x (f p)) → ∃ x, RI x (sQ f n)
  | 0, _ => ⟨0, RI_0⟩
  | n + 1, hh => by
    obtain ⟨x, hx⟩ := exRI_s n (fun p hp => hh p (by omega))
    obtain ⟨y, hy⟩ := hh n (by omega)
    exact ⟨x + y, RI_add hx hy⟩
theorem exRI_i (z : Int) : ∃ x, RI x (z : Rat) := ⟨Int64.ofInt z, z, rfl, rfl⟩
theorem cb_int (p q : Nat) : (∃ x, RI x (cb ((p : Rat) - q))) ∧ ∃ x, RI x (sq2 ((p : Rat) - q)) := by
  have e : (p : Rat) - q = (((p : Int) - (q : Int) : Int) : Rat) := by
    rw [Rat.intCast_sub, Rat.intCast_natCast, Rat.intCast_natCast]
  rw [e]
  unfold cb sq2
  refine ⟨?_, ?_⟩
  · split
    · exact ⟨0, RI_0⟩
    · rw [← Rat.intCast_mul, ← Rat.intCast_mul]; exact exRI_i _
  · split
    · exact ⟨0, RI_0⟩
    · rw [← Rat.intCast_mul]; exact exRI_i _
theorem exRI_m {p q : Rat} (h1 : ∃ x, RI x p) (h2 : ∃ x, RI x q) : ∃ x, RI x (p * q) := by
  obtain ⟨x, hx⟩ := h1
  obtain ⟨y, hy⟩ := h2
  exact ⟨x * y, RI_mul hx hy⟩
theorem dq_int {I : IM} {m n i : Nat} {pl : Nat → Nat} {h w : Nat → Rat} {F : Rat} (hP : isP pl n) (hS : SolM I m n pl h w F) (hi : i < n + 2) : ∃ z : Int, DQ (spR pl n) n * ldP pl h w F n i = (z : Rat) := by
  have hw : ∀ p, p < 13 → ∃ x, RI x (w p) := fun p hp => ⟨_, RI_eq (RI_32 (I (m + 13) p)) (hS.2.2.2.1 p hp)⟩
  obtain ⟨xA, hA⟩ := exRI_s (f := w) 13 hw
  obtain ⟨xM, hM⟩ := exRI_s (f := fun p => p * w p) 13 (fun p hp => exRI_m ⟨_, RI_nI (show p < 2 ^ 31 by omega)⟩ (hw p hp))
  have hC : ∀ p : Nat, ∃ x, RI x (sQ (fun q => w q * cb ((p : Rat) - q)) 13) := fun p => exRI_s 13 (fun q hq => exRI_m (hw q hq) (cb_int p q).1)
  have hD : ∀ p : Nat, ∃ x, RI x (sQ (fun q => w q * sq2 ((p : Rat) - q)) 13) := fun p => exRI_s 13 (fun q hq => exRI_m (hw q hq) (cb_int p q).2)
  have hF := RI_eq (RI_32 (I m 7)) hS.2.2.2.2
  have hSol : SolI (fun c => I (m + 10 + c)) (fun c k => if c = 0 then (if k = 5 then (I m 7).toInt64 else if k = 7 then xA else xM) else if c = 5 then Classical.choose (hC k) else Classical.choose (hD k)) 0 n pl h w F := by
    refine ⟨fun k hk => hS.2.1 k hk, fun k hk => (hS.2.2.1 k hk).1, hF, hA, hM, fun p _ => Classical.choose_spec (hC p), fun p _ => Classical.choose_spec (hD p)⟩
  obtain ⟨z, hz, _⟩ := (sol_ok hP hSol).1 i hi
  exact ⟨z, hz⟩
/-- DQ as a whole number -/
theorem dq_nat {pl : Nat → Nat} {n : Nat} (hP : isP pl n) : ∃ D : Nat, DQ (spR pl n) n = (D : Rat) ∧ 0 < D ∧ D ≤ 204472320 := by
  have e0 : spR pl n = fun k => (((spP pl n k : Nat) : Int) : Rat) := funext fun k => (Rat.intCast_natCast _).symm
  have e1 := cHI_cast (fun k => (spP pl n k : Int)) (n + 1)
  have e2 := prI_cast (fun k => (spP pl n k : Int)) (n + 1)
  rw [← e0] at e1 e2
  have hd := D_pos hP
  have hs := (D_size hP).2.2.1
  obtain ⟨z, hz⟩ : ∃ z : Int, DQ (spR pl n) n = (z : Rat) := by
    refine ⟨cHI (fun k => (spP pl n k : Int)) (n + 1) * prI (fun k => (spP pl n k : Int)) (n + 1) * prI (fun k => (spP pl n k : Int)) (n + 1) * (spP pl n 0 : Int), ?_⟩
    unfold DQ
    rw [e1, e2, Rat.intCast_mul, Rat.intCast_mul, Rat.intCast_mul, Rat.intCast_natCast]
    rfl
  rw [hz] at hd hs
  have g1 : (0 : Int) < z := Rat.intCast_lt_intCast.mp (show ((0 : Int) : Rat) < _ from hd)
  have g2 : z ≤ 204472320 := Rat.intCast_le_intCast.mp (show _ ≤ ((204472320 : Int) : Rat) from hs)
  refine ⟨z.toNat, ?_, by omega, by omega⟩
  have g3 : ((z.toNat : Nat) : Int) = z := by omega
  rw [hz, ← g3, Rat.intCast_natCast]
  rfl
