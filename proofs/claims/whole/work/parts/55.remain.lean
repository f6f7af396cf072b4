/-! part 55: level 2: remainder: the numbers -/
section RZRM
theorem z_least {P : Nat → Prop} {N : Nat} (n : Nat) (hn : n < N) (h : P n) : ∃ k, k < N ∧ P k ∧ ∀ j, j < k → ¬ P j := by
  induction n using Nat.strongRecOn with
  | ind n ih =>
    by_cases hc : ∃ j, j < n ∧ P j
    · obtain ⟨j, h1, h2⟩ := hc
      exact ih j h1 (by omega) h2
    · exact ⟨n, hn, h, fun j hj hp => hc ⟨j, hj, hp⟩⟩
/-- a number without a common divisor may be left out -/
theorem z_cop {a b x u v : Int} (h : a * u + b * v = 1) (hd : b ∣ a * x) : b ∣ x := by
  obtain ⟨k, hk⟩ := hd
  refine ⟨k * u + v * x, ?_⟩
  have e : x = (a * u + b * v) * x := by rw [h, Int.one_mul]
  rw [Int.mul_add, ← Int.mul_assoc b k u, ← hk, e]
  simp only [Int.add_mul, ← h]
  have e1 : a * x * u = a * u * x := by rw [Int.mul_assoc, Int.mul_comm x u, ← Int.mul_assoc]
  have e2 : b * (v * x) = b * v * x := (Int.mul_assoc _ _ _).symm
  have e3 : (a * u + b * v) * x = x := by rw [h, Int.one_mul]
  rw [Int.add_mul] at e3
  rw [e3, e1, e2]
  exact e3.symm
theorem z_cut {g b : Int} {a : Int} (hg : g ≠ 0) (h : g * b ∣ g * a) : b ∣ a := Int.dvd_of_mul_dvd_mul_left hg h
theorem z_remn (p q : Int) (m : Nat) (hm : 1 ≤ m) : ∃ (a c : Nat), 1 ≤ Int.gcd q m ∧ 1 ≤ a ∧ 1 ≤ c ∧ m = Int.gcd q m * c ∧ Int.gcd q m = Int.gcd p (Int.gcd q m) * a ∧ (∀ u : Nat, 1 ≤ u → u < c → ¬ (m : Int) ∣ q * u) ∧ (m : Int) ∣ q * c ∧ (∀ (x : Nat) (y : Int), 1 ≤ x → x < a → ¬ (m : Int) ∣ p * x + q * y) ∧ ∃ b : Nat, b < c ∧ (m : Int) ∣ p * a + q * b ∧ ∀ y : Nat, y < b → ¬ (m : Int) ∣ p * a + q * y := by
  obtain ⟨u, v, hb⟩ := z_bezI q m
  have hgm : ((Int.gcd q m : Nat) : Int) ∣ (m : Int) := Int.gcd_dvd_right _ _
  have hgq : ((Int.gcd q m : Nat) : Int) ∣ q := Int.gcd_dvd_left _ _
  have hg1 : 1 ≤ Int.gcd q m := by
    rcases Nat.eq_zero_or_pos (Int.gcd q m) with h | h
    · rw [h] at hgm
      have := Int.zero_dvd.mp hgm
      omega
    · exact h
  generalize hgg : Int.gcd q (m : Int) = g at *
  obtain ⟨c', hc'⟩ := hgm
  obtain ⟨q', hq'⟩ := hgq
  obtain ⟨s, t, hb2⟩ := z_bezI p g
  have hg2 : ((Int.gcd p g : Nat) : Int) ∣ (g : Int) := Int.gcd_dvd_right _ _
  have hg3 : ((Int.gcd p g : Nat) : Int) ∣ p := Int.gcd_dvd_left _ _
  have hg4 : 1 ≤ Int.gcd p g := by
    rcases Nat.eq_zero_or_pos (Int.gcd p g) with h | h
    · rw [h] at hg2
      have := Int.zero_dvd.mp hg2
      omega
    · exact h
  generalize hgh : Int.gcd p (g : Int) = h at *
  obtain ⟨a', ha'⟩ := hg2
  obtain ⟨p', hp'⟩ := hg3
  have hc0 : 0 < c' := by
    rcases Int.lt_or_le 0 c' with h | h
    · exact h
    · have := Int.mul_nonpos_of_nonneg_of_nonpos (show (0 : Int) ≤ g by omega) h
      omega
  have ha0 : 0 < a' := by
    rcases Int.lt_or_le 0 a' with h9 | h9
    · exact h9
    · have := Int.mul_nonpos_of_nonneg_of_nonpos (show (0 : Int) ≤ h by omega) h9
      omega
  obtain ⟨c, rfl⟩ := Int.eq_ofNat_of_zero_le (show 0 ≤ c' by omega)
  obtain ⟨a, rfl⟩ := Int.eq_ofNat_of_zero_le (show 0 ≤ a' by omega)
  have hgne : (g : Int) ≠ 0 := by omega
  have hhne : (h : Int) ≠ 0 := by omega
  have hmc : m = g * c := by
    have : ((m : Nat) : Int) = ((g * c : Nat) : Int) := by rw [Int.natCast_mul]; exact hc'
    exact Int.ofNat.inj this
  have hga : g = h * a := by
    have : ((g : Nat) : Int) = ((h * a : Nat) : Int) := by rw [Int.natCast_mul]; exact ha'
    exact Int.ofNat.inj this
  -- coprime parts
  have k1 : q' * u + (c : Int) * v = 1 := by
    have e : (g : Int) * (q' * u + (c : Int) * v) = (g : Int) * 1 := by
      rw [Int.mul_add, ← Int.mul_assoc, ← Int.mul_assoc, ← hq', ← hc', hb, Int.mul_one]
    exact Int.eq_of_mul_eq_mul_left hgne e
  have k2 : p' * s + (a : Int) * t = 1 := by
    have e : (h : Int) * (p' * s + (a : Int) * t) = (h : Int) * 1 := by
      rw [Int.mul_add, ← Int.mul_assoc, ← Int.mul_assoc, ← hp', ← ha', hb2, Int.mul_one]
    exact Int.eq_of_mul_eq_mul_left hhne e
  have hqc : (m : Int) ∣ q * c := ⟨q', by rw [hq', hc', Int.mul_assoc, Int.mul_comm q' (c : Int), Int.mul_assoc]⟩
  refine ⟨a, c, hg1, by omega, by omega, hmc, hga, ?_, hqc, ?_, ?_⟩
  · intro w h1 h2 hd
    rw [hc', hq', Int.mul_assoc] at hd
    have := z_cop k1 (z_cut hgne hd)
    have := Int.le_of_dvd (by omega) this
    omega
  · intro x y h1 h2 hd
    have d1 : (g : Int) ∣ p * x := by
      have : (g : Int) ∣ p * x + q * y := Int.dvd_trans ⟨c, hc'⟩ hd
      exact (Int.dvd_add_left (Int.dvd_mul_of_dvd_left ⟨q', hq'⟩)).mp this
    rw [ha', hp', Int.mul_assoc] at d1
    have := z_cop k2 (z_cut hhne d1)
    have := Int.le_of_dvd (by omega) this
    omega
  · have hex : (m : Int) ∣ p * a + q * ((-(p' * u)) % (c : Int)) := by
      have e1 : p * a = p' * g := by rw [hp', ha', Int.mul_comm (h : Int) p', Int.mul_assoc]
      have e2 : p * a + q * (-(p' * u)) = (m : Int) * (p' * v) := by
        rw [e1, ← hb, Int.mul_add, Int.mul_neg]
        have e3 : q * (p' * u) = p' * (q * u) := by rw [← Int.mul_assoc, Int.mul_comm q p', Int.mul_assoc]
        have e4 : (m : Int) * (p' * v) = p' * ((m : Int) * v) := by rw [← Int.mul_assoc, Int.mul_comm (m : Int) p', Int.mul_assoc]
        omega
      have e5 : (-(p' * u)) % (c : Int) = -(p' * u) - (c : Int) * ((-(p' * u)) / (c : Int)) := by
        have := Int.mul_ediv_add_emod (-(p' * u)) (c : Int)
        omega
      rw [e5, Int.mul_sub, ← Int.mul_assoc q (c : Int)]
      have e6 : p * a + (q * (-(p' * u)) - q * c * (-(p' * u) / (c : Int))) = (m : Int) * (p' * v) - q * c * (-(p' * u) / (c : Int)) := by omega
      rw [e6]
      exact Int.dvd_sub ⟨_, rfl⟩ (Int.dvd_mul_of_dvd_left hqc)
    have hn0 := Int.emod_nonneg (-(p' * u)) (show (c : Int) ≠ 0 by omega)
    have hn1 := Int.emod_lt_of_pos (-(p' * u)) (show 0 < (c : Int) by omega)
    obtain ⟨y, hy⟩ := Int.eq_ofNat_of_zero_le hn0
    rw [hy] at hex hn1
    exact z_least (P := fun y : Nat => (m : Int) ∣ p * a + q * y) y (by omega) hex
end RZRM
