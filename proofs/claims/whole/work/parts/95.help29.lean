section SEAT
variable {I : IM} {L : LM} {r n : Nat} {s : Nat → Bool} {q : Nat → Nat} {hh w : Nat → Rat} {F : Rat}
theorem rs_seat2 (hq : incN q n) (h7 : n ≤ 7) (hS : RestS I L r n s q hh w F) : ∀ k, k < n → 0 ≤ I (r + 15) k → (I (r + 15) k).toInt < 7 := fun k hk h0 => by
  have e := hS.2.2.1 k hk
  by_cases c : s k = true
  · rw [if_pos c] at e
    have := cntS_le (s := s) k
    rw [e, nI_toInt (by omega)]
    omega
  · rw [if_neg c] at e
    rw [e] at h0
    exact absurd h0 neg1_lt
theorem rs_p2 (hq : incN q n) (h7 : n ≤ 7) (hS : RestS I L r n s q hh w F) (h2 : 2 ≤ cntS s n) {i : Nat} (hi : i < 2) : px_ix (I (r + 1 + 1) i) 13 (lyN s q n i) := by
  have hP := isP_sel (s := s) hq h7 h2
  have := isP_le hP (show i < cntS s n - 2 + 2 by omega)
  exact k_ix ((hS.2.2.2 h2).1.1 i (by omega)) (by omega) (by decide)
theorem seat_no (h7 : n ≤ 7) (hS : RestS I L r n s q hh w F) {k : Nat} (hk : k < n) (c : decide (0 ≤ I (r + 15) k) = false) : s k = false := by
  have e := hS.2.2.1 k hk
  cases d : s k with
  | false => rfl
  | true =>
    rw [if_pos d] at e
    rw [e] at c
    have := cntS_le (s := s) k
    exact absurd (nI_ge0 (by omega)) (of_decide_eq_false c)
theorem seat_yes (hS : RestS I L r n s q hh w F) {k : Nat} (hk : k < n) (c : decide (0 ≤ I (r + 15) k) = true) : s k = true := by
  have e := hS.2.2.1 k hk
  cases d : s k with
  | true => rfl
  | false =>
    rw [if_neg (by rw [d]; decide)] at e
    rw [e] at c
    exact absurd (of_decide_eq_true c) neg1_lt
end SEAT
