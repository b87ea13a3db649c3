/-! the memory behind both constructors, and what holds of it -/
def sSh : Sh := shX8 (shX7 ([] ++ [kO 7]) ++ [kO 8])
def sI : IM := iX8 (nI0 (iX7 (nI0 (fun _ _ => 0) 0) 0 1) 81) 81 82
def sL : LM := lX8 (nL0 (lX7 (nL0 (fun _ _ => 0) 0) 0 1) 81) 81 82
def sR : RM := rX8 (nR0 (rX7 (nR0 (fun _ _ => none) 0) 0 1) 81) 81 82
def sA : LA := (0, fun _ => 0, fun _ => 0, fun _ => 0, 10, fun _ _ => 0)
theorem s_JR : JR sSh sR := by
  unfold JR ClsF RdrF ModF ClassF BeamF RestF PlanF LineF
  repeat' apply And.intro
  all_goals first | decide +kernel | rfl | skip
  intro s hs
  unfold SheetF
  match s, hs with
  | 0, _ => exact ⟨by first | decide +kernel | rfl, by first | decide +kernel | rfl, by first | decide +kernel | rfl⟩
  | 1, _ => exact ⟨by first | decide +kernel | rfl, by first | decide +kernel | rfl, by first | decide +kernel | rfl⟩
  | 2, _ => exact ⟨by first | decide +kernel | rfl, by first | decide +kernel | rfl, by first | decide +kernel | rfl⟩
  | 3, _ => exact ⟨by first | decide +kernel | rfl, by first | decide +kernel | rfl, by first | decide +kernel | rfl⟩
  | s + 4, hs => exact absurd hs (by omega)
theorem s_okA : okA sA := ⟨Nat.zero_le _, ⟨fun k h => absurd h (Nat.not_lt_zero _), fun k h => absurd h (Nat.not_lt_zero _)⟩, fun k h => absurd h (Nat.not_lt_zero _), fun p h => ⟨show (0 : Int) ≤ 0 by decide, show (0 : Int) ≤ 50 by decide⟩, show (1 : Int) ≤ 10 by decide, show (10 : Int) ≤ 20 by decide, fun s h p h => ⟨show (-20 : Int) ≤ 0 by decide, show (0 : Int) ≤ 20 by decide⟩⟩
theorem s_JA : JA sI sA := by
  refine ⟨⟨by decide +kernel, fun k h => absurd h (Nat.not_lt_zero _), fun k h => absurd h (Nat.not_lt_zero _), ?_, by decide +kernel, ?_⟩, ⟨by decide +kernel, fun k h => absurd h (Nat.not_lt_zero _), fun k h => absurd h (Nat.not_lt_zero _), ?_, by decide +kernel, ?_⟩, fun k h => absurd h (Nat.not_lt_zero _)⟩
  · show ∀ p, p < 13 → (sI 6 p).toInt = 0
    decide +kernel
  · show ∀ s, s < 4 → ∀ p, p < 13 → (sI (8 + s) p).toInt = 0
    decide +kernel
  · show ∀ p, p < 13 → (sI (81 + 5) p).toInt = 0
    decide +kernel
  · show ∀ s, s < 4 → ∀ p, p < 13 → (sI (81 + 6) (13 * s + p)).toInt = 0
    decide +kernel
theorem s_JB : JB sI 0 600 := by
  unfold JB LH LHm
  decide +kernel
set_option maxRecDepth 100000 in
theorem s_JT : JT sI 0 := by
  refine ⟨by decide +kernel, by decide +kernel, by decide, fun k => ?_, fun k h => absurd h (Nat.not_lt_zero _)⟩
  have e1 : sI 12 k = 0 := rfl
  have e2 : sI 88 k = 0 := rfl
  rw [e1, e2]
theorem s_JS : JS sI := by
  unfold JS
  decide +kernel
theorem s_JZ : JZ sI := by
  unfold JZ
  decide +kernel
theorem s_JJ : JJ sSh sI sL sR := ⟨sA, 0, 600, 0, s_okA, s_JR, s_JA, s_JB, s_JT, s_JS, s_JZ, CPl_f (by decide +kernel), CRest_f (by decide +kernel)⟩
theorem s_len1 : (shX7 ([] ++ [kO 7])).length = 81 := by decide +kernel
theorem s_len2 : (shX7 ([] ++ [kO 7]) ++ [kO 8]).length = 82 := by decide +kernel
