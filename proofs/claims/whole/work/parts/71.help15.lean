/-! the end of a run -/
theorem lessB_I {I I1 : IM} {hr : Nat → Int32} (f : frK I I1) : lessB I1 hr = lessB I hr := by
  funext b
  unfold lessB
  rw [f 3 b (by omega) (by omega), f 4 b (by omega) (by omega)]
theorem run_end {I I1 : IM} {A : LA} {hr : Nat → Int32} {x : Int32} {i : Nat} (f : frK I I1) (e : aN A = i) (ex : x = nI (cntS (lessB I1 hr) i)) : some (Value.int x) = some (.int (nI (cntS (lessB I hr) (aN A)))) ∧ forgI (runI I1 hr i) 0 9 = -1 ∧ forgI (runI I1 hr i) 0 14 = 0 ∧ (∀ a k, (a < 21 ∨ 60 < a) → (a ≠ 0 ∨ (k ≠ 9 ∧ k ≠ 10 ∧ k ≠ 14)) → forgI (runI I1 hr i) a k = runI I hr (aN A) a k) := by
  refine ⟨by rw [ex, e, lessB_I f], ?_, u2_s, fun a k h1 h2 => ?_⟩
  · unfold forgI
    rw [u2_n2 (by decide), u2_s]
  · have : forgI (runI I1 hr i) a k = runI I1 hr i a k := by
      unfold forgI u2
      rw [if_neg (by omega), if_neg (by omega)]
    rw [this, e]
    unfold runI
    rw [f 3 k (by omega) (by omega), f 4 k (by omega) (by omega), f a k (by omega) (by omega)]
