/-! part 87d: level 2: meet: its index never wraps around -/
theorem z_meetB {K gC m1 k1 a c a' c' : Nat} (h1 : K ≤ gC) (h2 : c = gC * m1) (h3 : k1 ≤ a) (h4 : a * c ≤ 1000000) (h5 : a' * c' ≤ 1000000) : K * (k1 * a') * (m1 * c') ≤ 1000000000000 := by
  have e : K * (k1 * a') * (m1 * c') = (k1 * (K * m1)) * (a' * c') := by ac_rfl
  have i1 : K * m1 ≤ c := by rw [h2]; exact Nat.mul_le_mul h1 (Nat.le_refl m1)
  have i2 : k1 * (K * m1) ≤ a * c := Nat.mul_le_mul h3 i1
  have i3 := Nat.mul_le_mul (Nat.le_trans i2 h4) h5
  rw [e]
  omega
