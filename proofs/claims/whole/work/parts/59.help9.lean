/-! of what lies on the rest: seats, places -/
section HP
variable {I : IM} {L : LM} {r n : Nat} {s : Nat → Bool} {q : Nat → Nat} {hh w : Nat → Rat} {F H : Rat}
theorem rs_seat (ok : okS q hh w F H n) (hS : RestS I L r n s q hh w F) : ∀ k, k < n → 0 ≤ I (r + 15) k → (I (r + 15) k).toInt < 7 := fun k hk h0 => by
  have e := hS.2.2.1 k hk
  have h7 := ok.1
  by_cases c : s k = true
  · rw [if_pos c] at e
    have := cntS_le (s := s) k
    rw [e, nI_toInt (by omega)]
    omega
  · rw [if_neg c] at e
    rw [e] at h0
    exact absurd h0 neg1_lt
theorem rs_q (ok : okS q hh w F H n) (hS : RestS I L r n s q hh w F) : ∀ k, k < n → px_ix (I (r + 13) k) 13 (q k) := fun k hk => k_ix (hS.1.2.1 k hk) (ok.2.1.1 k hk) (by decide)
theorem ri_q (ok : okS q hh w F H n) (hS : RestI I L r n q hh w F) : ∀ k, k < n → px_ix (I (r + 13) k) 13 (q k) := fun k hk => k_ix (hS.2.1 k hk) (ok.2.1.1 k hk) (by decide)
theorem rs_p (ok : okS q hh w F H n) (hS : RestS I L r n s q hh w F) (h2 : 2 ≤ cntS s n) {i : Nat} (hi : i < 2) : px_ix (I (r + 1 + 1) i) 13 (lyN s q n i) := by
  have hP := (okS_B (s := s) ok h2).1
  have := isP_le hP (show i < cntS s n - 2 + 2 by omega)
  exact k_ix ((hS.2.2.2 h2).1.1 i (by omega)) (by omega) (by decide)
theorem rs_7 (ok : okS q hh w F H n) : cntS s n ≤ 7 := Nat.le_trans (cntS_le n) ok.1
end HP
