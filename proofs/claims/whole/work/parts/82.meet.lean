/-! part 82: level 2: meet: the numbers -/
section RZMT
theorem z_crt {c1 c2 : Nat} (h2 : 1 ≤ c2) (e : Int) (he : ((Int.gcd (c1 : Int) (c2 : Int) : Nat) : Int) ∣ e) : ∃ t : Nat, t * Int.gcd (c1 : Int) (c2 : Int) < c2 ∧ (c2 : Int) ∣ e + (c1 : Int) * (t : Int) ∧ ∀ s : Nat, s < t → ¬ (c2 : Int) ∣ e + (c1 : Int) * (s : Int) := by
  obtain ⟨a, c, z1, z2, z3, z4, z5, z6, z7, z8, b, z9, zA, zB⟩ := z_remn e c1 c2 h2
  generalize hg : Int.gcd (c1 : Int) (c2 : Int) = g at *
  have hd : (g : Int) ∣ ((Int.gcd e (g : Int) : Nat) : Int) := Int.dvd_coe_gcd he (Int.dvd_refl _)
  generalize hh : Int.gcd e (g : Int) = h at *
  have hh1 : 1 ≤ h := by
    rcases Nat.eq_zero_or_pos h with h0 | h0
    · rw [h0, Nat.zero_mul] at z5; omega
    · exact h0
  have hle : (g : Int) ≤ h := Int.le_of_dvd (by omega) hd
  have ha1 : a = 1 := by
    rcases Nat.lt_or_ge 1 a with h0 | h0
    · have := Nat.mul_le_mul (show g ≤ h by omega) (show 2 ≤ a by omega)
      omega
    · omega
  subst ha1
  have hm : ((1 : Nat) : Int) = 1 := rfl
  rw [hm, Int.mul_one] at zA
  refine ⟨b, ?_, zA, fun s hs hc => zB s hs ?_⟩
  · have := Nat.mul_lt_mul_of_pos_right z9 (show 0 < g by omega)
    rw [z4, Nat.mul_comm g c]
    exact this
  · rw [hm, Int.mul_one]
    exact hc
theorem z_crt_u {c1 c2 L : Nat} {y z : Int} (d1 : (c1 : Int) ∣ y - z) (d2 : (c2 : Int) ∣ y - z) (hy : 0 ≤ y ∧ y < L) (hz : 0 ≤ z ∧ z < L) (hg : 1 ≤ Int.gcd (c1 : Int) (c2 : Int)) (hL : Int.gcd (c1 : Int) (c2 : Int) * L = c1 * c2) : y = z := by
  have n1 : c1 ∣ (y - z).natAbs := Int.ofNat_dvd_left.mp d1
  have n2 : c2 ∣ (y - z).natAbs := Int.ofNat_dvd_left.mp d2
  have h3 := Nat.lcm_dvd n1 n2
  have h4 : Nat.gcd c1 c2 * Nat.lcm c1 c2 = c1 * c2 := Nat.gcd_mul_lcm c1 c2
  have h5 : Int.gcd (c1 : Int) (c2 : Int) = Nat.gcd c1 c2 := rfl
  rw [h5] at hL hg
  have h6 : Nat.lcm c1 c2 = L := Nat.eq_of_mul_eq_mul_left (show 0 < Nat.gcd c1 c2 by omega) (h4.trans hL.symm)
  rw [h6] at h3
  have h7 : (y - z).natAbs < L := by omega
  have h8 := Nat.eq_zero_of_dvd_of_lt h3 h7
  omega
end RZMT
