theorem faultM_no {ln sz l i n : Int32} (h1 : ¬ ln < 0) (h2 : ln = l) (hf : faultM ln sz l i n < 0) : hasM sz i n = false := by
  unfold faultM at hf
  rw [if_neg h1, if_pos h2] at hf
  cases hq : hasM sz i n with
  | false => rfl
  | true => rw [if_pos hq] at hf; exact absurd hf (by decide)
theorem an3_1 {x y z : Bool} (h : x = false) : (x && y && z) = false := by rw [h]; rfl
theorem an3_2 {x y z : Bool} (h : y = false) : (x && y && z) = false := by rw [h, Bool.and_false]; rfl
theorem an3_3 {x y z : Bool} (h : z = false) : (x && y && z) = false := by rw [h, Bool.and_false]
