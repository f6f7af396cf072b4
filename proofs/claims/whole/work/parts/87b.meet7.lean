/-! part 87b: level 2: meet: the width's multiple -/
section RZMZ
theorem z_meetK {tall : Nat} {D : Int} (h : 1 ≤ tall) : 1 ≤ tall / Int.gcd tall D ∧ (tall : Int) ∣ ((tall / Int.gcd tall D : Nat) : Int) * D ∧ ∀ k : Nat, 1 ≤ k → k < tall / Int.gcd tall D → ¬ (tall : Int) ∣ (k : Int) * D := by
  obtain ⟨a, c, z1, z2, z3, z4, z5, z6, z7, z8, b, z9, zA, zB⟩ := z_remn 0 D tall h
  have hc : tall / Int.gcd tall D = c := by
    rw [Int.gcd_comm]
    have := Nat.mul_div_cancel_left c (show 0 < Int.gcd D (tall : Int) by omega)
    rw [← z4] at this
    exact this
  rw [hc]
  refine ⟨z3, by rw [Int.mul_comm]; exact z7, fun k h1 h2 h3 => z6 k h1 h2 ?_⟩
  rw [Int.mul_comm]
  exact h3
theorem z_meetD {tall c c' b b' u v : Int} (h1 : tall ∣ c) (h2 : tall ∣ c') : tall ∣ (u % c) * b - (v % c') * b' ↔ tall ∣ u * b - v * b' := by
  have e1 : u % c = u - c * (u / c) := by have := Int.mul_ediv_add_emod u c; omega
  have e2 : v % c' = v - c' * (v / c') := by have := Int.mul_ediv_add_emod v c'; omega
  have hd : tall ∣ c' * (v / c') * b' - c * (u / c) * b := Int.dvd_sub (Int.dvd_mul_of_dvd_left (Int.dvd_mul_of_dvd_left h2)) (Int.dvd_mul_of_dvd_left (Int.dvd_mul_of_dvd_left h1))
  have e3 : (u % c) * b - (v % c') * b' = (u * b - v * b') + (c' * (v / c') * b' - c * (u / c) * b) := by
    rw [e1, e2, Int.sub_mul, Int.sub_mul]
    omega
  rw [e3]
  constructor
  · intro h
    have := Int.dvd_sub h hd
    rwa [Int.add_sub_cancel] at this
  · intro h
    exact Int.dvd_add h hd
end RZMZ
