theorem ad_PFg {L : LM} {m D : Nat} {a b : Int64} {q t B C : Rat} (hq : PF L m D q) (hb : 0 < b.toInt) (h : (a.toInt : Rat) = t * (b.toInt : Rat)) (hD : 0 < D) (hD2 : D < 9223372036854775807) (hDr : inQ (D : Rat) C) (hbD : b.toInt.natAbs ∣ D) (hr : inQ (q + t) B) (hBC : B * C ≤ 9223372036854775807) : ¬ gcdL (L m 18) b = 0 ∧ ¬ gcdL (adN L m a b) (adD L m b) = 0 ∧ PF (adL L m a b) m D (q + t) := by
  have hb2 := inQ_le (inQ_mul hr hDr) hBC
  have := ad_ok (L := L) (m := m) (a := a) (b := b) hq.1 hb h hD hD2 hq.2 hbD hb2
  refine ⟨this.1, this.2.1, this.2.2, ?_⟩
  obtain ⟨z1, e1⟩ := dv_int hq.2
  obtain ⟨k, hk⟩ := hbD
  refine int_dv hD (z := z1 + a.toInt * k) ?_
  rw [Rat.intCast_add, Rat.intCast_mul, e1, h]
  have hk2 : (D : Rat) = (b.toInt : Rat) * ((k : Int) : Rat) := by
    rw [← Rat.intCast_mul, ← Rat.intCast_natCast]
    congr 1
    have : (b.toInt.natAbs : Int) = b.toInt := by omega
    rw [hk, Int.natCast_mul, this]
  rw [hk2]
  grind
def ccOk (q : Int32) (cc : Rat → Rat) : Prop := ∀ (v : Int64) (d : Rat), (v.toInt : Rat) = d → inQ d 12 → RI (cubM v q) (cc d) ∧ inQ (cc d) 1728
theorem cc_0 : ccOk 0 cb := fun v d h hd => by
  have hx := RI_64 v
  rw [h] at hx
  have e : v.toInt ≤ 0 ↔ d ≤ 0 := by
    rw [← h]
    exact (Rat.intCast_le_intCast (a := v.toInt) (b := 0)).symm
  unfold cubM cb
  by_cases c : v.toInt ≤ 0
  · rw [if_neg (show ¬ 0 < v.toInt by omega), if_pos (e.mp c)]
    exact ⟨RI_0, inQ_0 (by grind)⟩
  · rw [if_pos (show 0 < v.toInt by omega), if_neg (fun g => c (e.mpr g)), if_pos rfl]
    exact ⟨RI_mul (RI_mul hx hx) hx, inQ_le (inQ_mul (inQ_mul hd hd) hd) (by grind)⟩
theorem cc_1 : ccOk 1 (fun d => 3 * sq2 d) := fun v d h hd => by
  have hx := RI_64 v
  rw [h] at hx
  have e : v.toInt ≤ 0 ↔ d ≤ 0 := by
    rw [← h]
    exact (Rat.intCast_le_intCast (a := v.toInt) (b := 0)).symm
  have h3 : inQ (3 : Rat) 3 := by unfold inQ; grind
  show RI (cubM v 1) (3 * sq2 d) ∧ inQ (3 * sq2 d) 1728
  unfold cubM sq2
  by_cases c : v.toInt ≤ 0
  · rw [if_neg (show ¬ 0 < v.toInt by omega), if_pos (e.mp c), show (3 : Rat) * 0 = 0 by grind]
    exact ⟨RI_0, inQ_0 (by grind)⟩
  · rw [if_pos (show 0 < v.toInt by omega), if_neg (fun g => c (e.mpr g)), if_neg (show ¬ (1 : Int32) = 0 by decide)]
    exact ⟨RI_eq (RI_mul (RI_mul RI_3 hx) hx) (by grind), inQ_le (inQ_mul h3 (inQ_mul hd hd)) (by grind)⟩
