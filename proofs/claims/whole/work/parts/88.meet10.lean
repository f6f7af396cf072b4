/-! part 88: level 2: meet: the numbers together -/
section RZNC
theorem z_meetS {c c' g m1 m2 : Nat} {u v : Int} (hg1 : 1 ≤ g) (hm : 1 ≤ m2) (hc : c = g * m1) (hc1 : 1 ≤ c) (hc2 : c' = g * m2) (hg : Int.gcd (c : Int) (c' : Int) = g) (hd : (g : Int) ∣ u - v) : ∃ t : Nat, (t : Int) < c' ∧ (c' : Int) ∣ u % c + c * (t : Int) - v ∧ (∀ s : Nat, s < t → ¬ (c' : Int) ∣ u % c + c * (s : Int) - v) ∧ 0 ≤ u % c + c * (t : Int) ∧ u % c + c * (t : Int) < ((g * m1 * m2 : Nat) : Int) := by
  have hc' : 1 ≤ c' := by rw [hc2]; exact Nat.mul_pos hg1 hm
  have e1 : u % c = u - c * (u / c) := by have := Int.mul_ediv_add_emod u c; omega
  have hgc : (g : Int) ∣ (c : Int) := by rw [hc, Int.natCast_mul]; exact Int.dvd_mul_right _ _
  have he : (g : Int) ∣ u % c - v := by
    have h1 : (g : Int) ∣ c * (u / c) := Int.dvd_mul_of_dvd_left hgc
    have h2 := Int.dvd_sub hd h1
    have : u % c - v = u - v - c * (u / c) := by omega
    rwa [this]
  obtain ⟨t, t1, t2, t3⟩ := z_crt (c1 := c) (c2 := c') hc' (u % c - v) (by rw [hg]; exact he)
  rw [hg, hc2, Nat.mul_comm] at t1
  have t4 : t < m2 := Nat.lt_of_mul_lt_mul_left t1
  have hs : ∀ s : Nat, u % c - v + c * (s : Int) = u % c + c * (s : Int) - v := fun s => by omega
  rw [hs] at t2
  have p1 := Int.emod_nonneg u (show (c : Int) ≠ 0 by omega)
  have p2 := Int.emod_lt_of_pos u (show 0 < (c : Int) by omega)
  have h5 : 0 ≤ (c : Int) * (t : Int) := Int.mul_nonneg (by omega) (by omega)
  have h6 : (c : Int) * ((t : Int) + 1) ≤ ((g * m1 * m2 : Nat) : Int) := by
    rw [← hc, Int.natCast_mul]
    exact Int.mul_le_mul_of_nonneg_left (by omega) (by omega)
  rw [Int.mul_add, Int.mul_one] at h6
  have h7 : m2 ≤ c' := by rw [hc2]; exact Nat.le_mul_of_pos_left _ hg1
  refine ⟨t, by omega, t2, fun s h => ?_, by omega, by omega⟩
  rw [← hs]
  exact t3 s h
theorem z_meetY {c c' g m1 m2 : Nat} {u v : Int} (hg1 : 1 ≤ g) (hm1 : 1 ≤ m1) (hm2 : 1 ≤ m2) (hc : c = g * m1) (hc2 : c' = g * m2) (hg : Int.gcd (c : Int) (c' : Int) = g) (hd : (g : Int) ∣ u - v) : ∃ t t2 : Nat, ((t : Int) < c' ∧ (c' : Int) ∣ u % c + c * (t : Int) - v ∧ (∀ s : Nat, s < t → ¬ (c' : Int) ∣ u % c + c * (s : Int) - v)) ∧ ((t2 : Int) < c ∧ (c : Int) ∣ v % c' + c' * (t2 : Int) - u ∧ (∀ s : Nat, s < t2 → ¬ (c : Int) ∣ v % c' + c' * (s : Int) - u)) ∧ v % c' + c' * (t2 : Int) = u % c + c * (t : Int) ∧ 0 ≤ u % c + c * (t : Int) ∧ u % c + c * (t : Int) < (m1 : Int) * (c' : Int) := by
  have h1 : 1 ≤ c := by rw [hc]; exact Nat.mul_pos hg1 hm1
  have h2 : 1 ≤ c' := by rw [hc2]; exact Nat.mul_pos hg1 hm2
  obtain ⟨t, a1, a2, a3, a4, a5⟩ := z_meetS hg1 hm2 hc h1 hc2 hg hd
  obtain ⟨s, b1, b2, b3, b4, b5⟩ := z_meetS hg1 hm1 hc2 h2 hc (by rw [Int.gcd_comm]; exact hg) (by have := (Int.dvd_neg (a := (g : Int)) (b := u - v)).mpr hd; rwa [Int.neg_sub] at this)
  have e0 : g * m2 * m1 = g * m1 * m2 := by ac_rfl
  rw [e0] at b5
  have e1 : u % c = u - c * (u / c) := by have := Int.mul_ediv_add_emod u c; omega
  have e2 : v % c' = v - c' * (v / c') := by have := Int.mul_ediv_add_emod v c'; omega
  have hL : ((g * m1 * m2 : Nat) : Int) = (m1 : Int) * (c' : Int) := by
    rw [hc2, ← Int.natCast_mul]
    congr 1
    ac_rfl
  refine ⟨t, s, ⟨a1, a2, a3⟩, ⟨b1, b2, b3⟩, ?_, a4, by omega⟩
  refine (z_crt_u (c1 := c) (c2 := c') (L := g * m1 * m2) ?_ ?_ ⟨b4, by omega⟩ ⟨a4, by omega⟩ (by omega) ?_)
  · have h3 : (c : Int) ∣ v % c' + c' * (s : Int) - u := b2
    have h4 : (c : Int) ∣ c * (u / c) - c * (t : Int) := by rw [← Int.mul_sub]; exact Int.dvd_mul_right _ _
    have := Int.dvd_add h3 h4
    have e : v % c' + c' * (s : Int) - (u % c + c * (t : Int)) = v % c' + c' * (s : Int) - u + (c * (u / c) - c * (t : Int)) := by omega
    rwa [e]
  · have h3 : (c' : Int) ∣ u % c + c * (t : Int) - v := a2
    have h4 : (c' : Int) ∣ c' * (v / c') - c' * (s : Int) := by rw [← Int.mul_sub]; exact Int.dvd_mul_right _ _
    have := (Int.dvd_neg (a := (c' : Int))).mpr (Int.dvd_add h3 h4)
    have e : v % c' + c' * (s : Int) - (u % c + c * (t : Int)) = -(u % c + c * (t : Int) - v + (c' * (v / c') - c' * (s : Int))) := by omega
    rwa [e]
  · rw [hg, hc, hc2]
    ac_rfl
theorem z_meetN {a b c a' b' c' : Int} {gA gC k1 k2 m1 m2 K : Nat} (h1 : 1 ≤ gA) (h2 : 1 ≤ gC) (hk1 : 1 ≤ k1) (hk2 : 1 ≤ k2) (e1 : a = (gA : Int) * (k1 : Int)) (e2 : a' = (gA : Int) * (k2 : Int)) (e3 : c = (gC : Int) * (m1 : Int)) (e4 : c' = (gC : Int) * (m2 : Int)) (hK : gC / Int.gcd gC ((k2 : Int) * b - (k1 : Int) * b') = K) : 1 ≤ K ∧ K ≤ gC ∧ ((K : Int) * ((k1 : Int) * a')).tdiv a = (K : Int) * k2 ∧ ((K : Int) * ((k1 : Int) * a')).tdiv a' = (K : Int) * k1 ∧ (gC : Int) ∣ (K : Int) * k2 * b - (K : Int) * k1 * b' ∧ (gC : Int) ∣ (((K : Int) * ((k1 : Int) * a')).tdiv a % c) * b - (((K : Int) * ((k1 : Int) * a')).tdiv a' % c') * b' ∧ ∀ k : Nat, 1 ≤ k → k < K → ¬ (gC : Int) ∣ (((k : Int) * ((k1 : Int) * a')).tdiv a % c) * b - (((k : Int) * ((k1 : Int) * a')).tdiv a' % c') * b' := by
  obtain ⟨q1, q2, q3⟩ := z_meetK (tall := gC) (D := (k2 : Int) * b - (k1 : Int) * b') h2
  have hle : K ≤ gC := by rw [← hK]; exact Nat.div_le_self _ _
  rw [hK] at q1 q2 q3
  have ha : 0 < a := by rw [e1]; exact Int.mul_pos (by omega) (by omega)
  have ha' : 0 < a' := by rw [e2]; exact Int.mul_pos (by omega) (by omega)
  have w1 : (k1 : Int) * a' = (k2 : Int) * a := by rw [e1, e2]; ac_rfl
  have t1 : ∀ k : Nat, ((k : Int) * ((k1 : Int) * a')).tdiv a = (k : Int) * k2 := by
    intro k
    rw [w1, ← Int.mul_assoc]
    exact Int.mul_tdiv_cancel _ (by omega)
  have t2 : ∀ k : Nat, ((k : Int) * ((k1 : Int) * a')).tdiv a' = (k : Int) * k1 := by
    intro k
    rw [← Int.mul_assoc]
    exact Int.mul_tdiv_cancel _ (by omega)
  have d1 : (gC : Int) ∣ c := by rw [e3]; exact Int.dvd_mul_right _ _
  have d2 : (gC : Int) ∣ c' := by rw [e4]; exact Int.dvd_mul_right _ _
  have hD : ∀ k : Nat, (k : Int) * k2 * b - (k : Int) * k1 * b' = (k : Int) * ((k2 : Int) * b - (k1 : Int) * b') := by
    intro k
    rw [Int.mul_sub, Int.mul_assoc, Int.mul_assoc]
  refine ⟨q1, hle, t1 K, t2 K, by rw [hD]; exact q2, ?_, ?_⟩
  · rw [t1, t2, z_meetD d1 d2, hD]
    exact q2
  · intro k h3 h4
    rw [t1, t2, z_meetD d1 d2, hD]
    exact q3 k h3 h4
end RZNC
