/-! part 97za04: simple polygons: hit -/
section RZG04
theorem gm_cr_swap (z p q : Int × Int) : gm_cr z q p = - gm_cr z p q := by
  have e : gm_X q p z = - gm_X p q z := by unfold gm_X; grind
  unfold gm_cr
  rw [e]
  unfold gm_k
  repeat' split
  all_goals omega
theorem gm_X3 (a e c z : Int × Int) : gm_X a e z + gm_X e c z + gm_X c a z = gm_X a e c := by unfold gm_X; grind
/-- a crossing: for each line the same -/
theorem gm_cross (p q y z g h : Int × Int) : gm_X y z q * gm_X g h p - gm_X y z p * gm_X g h q = gm_X p q y * gm_X g h z - gm_X p q z * gm_X g h y := by unfold gm_X; grind
theorem gm_cross0 (p q y z : Int × Int) : gm_X y z q - gm_X y z p = gm_X p q y - gm_X p q z := by unfold gm_X; grind
theorem gm_cross1 (p q y z : Int × Int) : gm_X y z q * p.1 - gm_X y z p * q.1 = gm_X p q y * z.1 - gm_X p q z * y.1 := by unfold gm_X; grind
theorem gm_cross2 (p q y z : Int × Int) : gm_X y z q * p.2 - gm_X y z p * q.2 = gm_X p q y * z.2 - gm_X p q z * y.2 := by unfold gm_X; grind
/-- a place on a side -/
def gm_on (p q z : Int × Int) : Prop := gm_X p q z = 0 ∧ (min p.1 q.1 ≤ z.1 ∧ z.1 ≤ max p.1 q.1) ∧ (min p.2 q.2 ≤ z.2 ∧ z.2 ≤ max p.2 q.2)
def gm_crs (p q a b : Int × Int) : Prop := (gm_X p q a > 0 ∧ gm_X p q b < 0) ∨ (gm_X p q a < 0 ∧ gm_X p q b > 0)
def gm_hit (p q r s : Int × Int) : Prop := (gm_on p q r ∨ gm_on p q s ∨ gm_on r s p ∨ gm_on r s q) ∨ (gm_crs p q r s ∧ gm_crs r s p q)
theorem gm_on_swap {p q z : Int × Int} : gm_on q p z ↔ gm_on p q z := by
  unfold gm_on
  have e : gm_X q p z = - gm_X p q z := by unfold gm_X; grind
  rw [e, Int.min_comm q.1, Int.min_comm q.2, Int.max_comm q.1, Int.max_comm q.2]
  omega
theorem gm_crs_swap {p q a b : Int × Int} : gm_crs q p a b ↔ gm_crs p q a b := by
  unfold gm_crs
  have e : gm_X q p a = - gm_X p q a := by unfold gm_X; grind
  have e' : gm_X q p b = - gm_X p q b := by unfold gm_X; grind
  omega
theorem gm_crs_swap' {p q a b : Int × Int} : gm_crs p q b a ↔ gm_crs p q a b := by
  unfold gm_crs
  omega
theorem gm_hit_sym {p q r s : Int × Int} : gm_hit r s p q ↔ gm_hit p q r s := by
  unfold gm_hit
  constructor
  · rintro ((h | h | h | h) | ⟨h1, h2⟩)
    · exact Or.inl (Or.inr (Or.inr (Or.inl h)))
    · exact Or.inl (Or.inr (Or.inr (Or.inr h)))
    · exact Or.inl (Or.inl h)
    · exact Or.inl (Or.inr (Or.inl h))
    · exact Or.inr ⟨h2, h1⟩
  · rintro ((h | h | h | h) | ⟨h1, h2⟩)
    · exact Or.inl (Or.inr (Or.inr (Or.inl h)))
    · exact Or.inl (Or.inr (Or.inr (Or.inr h)))
    · exact Or.inl (Or.inl h)
    · exact Or.inl (Or.inr (Or.inl h))
    · exact Or.inr ⟨h2, h1⟩
theorem gm_hit_swap {p q r s : Int × Int} : gm_hit q p r s ↔ gm_hit p q r s := by
  unfold gm_hit
  rw [gm_on_swap (p := p) (q := q) (z := r), gm_on_swap (p := p) (q := q) (z := s), gm_crs_swap (p := p) (q := q), gm_crs_swap' (p := r) (q := s) (a := p) (b := q), Or.comm (a := gm_on r s q)]
theorem gm_hit_swap' {p q r s : Int × Int} : gm_hit p q s r ↔ gm_hit p q r s := by
  rw [gm_hit_sym, gm_hit_swap, gm_hit_sym]
theorem gm_between {l m p q z : Int} (hl : 0 ≤ l) (hm : 0 ≤ m) (h0 : 0 < l + m) (h : (l + m) * z = l * p + m * q) : min p q ≤ z ∧ z ≤ max p q := by
  constructor
  · rcases Int.le_total p q with h1 | h1
    · rw [Int.min_eq_left h1]
      have : 0 ≤ m * (q - p) := Int.mul_nonneg hm (by omega)
      have : 0 ≤ (l + m) * (z - p) := by grind
      have := Int.nonneg_of_mul_nonneg_right this h0
      omega
    · rw [Int.min_eq_right h1]
      have : 0 ≤ l * (p - q) := Int.mul_nonneg hl (by omega)
      have : 0 ≤ (l + m) * (z - q) := by grind
      have := Int.nonneg_of_mul_nonneg_right this h0
      omega
  · rcases Int.le_total p q with h1 | h1
    · rw [Int.max_eq_right h1]
      have : 0 ≤ l * (q - p) := Int.mul_nonneg hl (by omega)
      have : 0 ≤ (l + m) * (q - z) := by grind
      have := Int.nonneg_of_mul_nonneg_right this h0
      omega
    · rw [Int.max_eq_left h1]
      have : 0 ≤ m * (p - q) := Int.mul_nonneg hm (by omega)
      have : 0 ≤ (l + m) * (p - z) := by grind
      have := Int.nonneg_of_mul_nonneg_right this h0
      omega
/-- between two places -/
theorem gm_on_of {l m : Int} {p q z : Int × Int} (hl : 0 ≤ l) (hm : 0 ≤ m) (h0 : 0 < l + m) (h1 : (l + m) * z.1 = l * p.1 + m * q.1) (h2 : (l + m) * z.2 = l * p.2 + m * q.2) : gm_on p q z := by
  refine ⟨?_, gm_between hl hm h0 h1, gm_between hl hm h0 h2⟩
  have e : (l + m) * gm_X p q z = 0 := by
    unfold gm_X
    have : (l + m) * ((q.1 - p.1) * (z.2 - p.2) - (q.2 - p.2) * (z.1 - p.1)) = (q.1 - p.1) * ((l + m) * z.2 - (l + m) * p.2) - (q.2 - p.2) * ((l + m) * z.1 - (l + m) * p.1) := by grind
    rw [this, h1, h2]; grind
  rcases Int.mul_eq_zero.mp e with h | h
  · omega
  · exact h
/-- a crossing is a hit -/
theorem gm_hit_of {p q g h : Int × Int} (hp : gm_X g h p < 0) (hq : 0 < gm_X g h q) (hw : (0 ≤ gm_X p q g ∧ gm_X p q h ≤ 0) ∨ (gm_X p q g ≤ 0 ∧ 0 ≤ gm_X p q h)) : gm_hit p q g h := by
  have c0 := gm_cross0 p q g h
  have c1 := gm_cross1 p q g h
  have c2 := gm_cross2 p q g h
  by_cases h1 : gm_X p q g = 0
  · refine Or.inl (Or.inl (gm_on_of (l := gm_X g h q) (m := - gm_X g h p) (by omega) (by omega) (by omega) ?_ ?_))
    · rw [h1] at c0 c1
      grind
    · rw [h1] at c0 c2
      grind
  · by_cases h2 : gm_X p q h = 0
    · refine Or.inl (Or.inr (Or.inl (gm_on_of (l := gm_X g h q) (m := - gm_X g h p) (by omega) (by omega) (by omega) ?_ ?_)))
      · rw [h2] at c0 c1
        grind
      · rw [h2] at c0 c2
        grind
    · refine Or.inr ⟨?_, Or.inr ⟨hp, hq⟩⟩
      unfold gm_crs
      omega
end RZG04
