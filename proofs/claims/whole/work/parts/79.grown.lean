/-! part 79: level 2: twice the area and the rim are even or odd together -/
section RZGW
variable {x y : Nat → Int} {n : Nat}
theorem z_m2 (a b : Int) : (a % 2 = 1 ∧ b % 2 = 1 ∧ (a * b) % 2 = 1) ∨ (a % 2 = 0 ∧ (a * b) % 2 = 0) ∨ (b % 2 = 0 ∧ (a * b) % 2 = 0) := by
  have h := Int.mul_emod a b 2
  rcases Int.emod_two_eq a with ha | ha
  · rw [ha, Int.zero_mul] at h
    exact .inr (.inl ⟨ha, h⟩)
  · rcases Int.emod_two_eq b with hb | hb
    · rw [hb, Int.mul_zero] at h
      exact .inr (.inr ⟨hb, h⟩)
    · rw [ha, hb] at h
      exact .inl ⟨ha, hb, h⟩
theorem z_gcd2 (a b : Int) : (a % 2 = 0 ∧ b % 2 = 0 ∧ (Int.gcd a b : Int) % 2 = 0) ∨ ((a % 2 = 1 ∨ b % 2 = 1) ∧ (Int.gcd a b : Int) % 2 = 1) := by
  obtain ⟨p, hp⟩ := Int.gcd_dvd_left a b
  obtain ⟨q, hq⟩ := Int.gcd_dvd_right a b
  have m1 := z_m2 (Int.gcd a b : Int) p
  have m2 := z_m2 (Int.gcd a b : Int) q
  rw [← hp] at m1
  rw [← hq] at m2
  by_cases h : a % 2 = 0 ∧ b % 2 = 0
  · refine .inl ⟨h.1, h.2, ?_⟩
    obtain ⟨u, v, hb⟩ := z_bezI a b
    have k1 := z_m2 a u
    have k2 := z_m2 b v
    omega
  · refine .inr ⟨by omega, ?_⟩
    omega
theorem zp_sum_nx (f : Nat → Int) : ∀ m, m < n → zp_sum (fun i => f (zp_nx n i)) m = zp_sum f (m + 1) - f 0 := by
  intro m
  induction m with
  | zero => intro _; simp [zp_sum]
  | succ m ih =>
    intro hm
    have e : zp_nx n m = m + 1 := if_pos (by omega)
    rw [zp_sum, ih (by omega), e, zp_sum, zp_sum, zp_sum]
    omega
theorem zp_sum_cyc (f : Nat → Int) : zp_sum (fun i => f (zp_nx n i)) n = zp_sum f n := by
  cases n with
  | zero => rfl
  | succ m =>
    have e : zp_nx (m + 1) m = 0 := if_neg (by omega)
    rw [zp_sum, zp_sum_nx f m (by omega), e]
    omega
theorem z_edge (a b c e : Int) : ((a * e - b * c) + (Int.gcd (c - a) (e - b) : Int) + (c + e + c * e) + (a + b + a * b)) % 2 = 0 := by
  have h1 := z_m2 a e
  have h2 := z_m2 b c
  have h3 := z_m2 c e
  have h4 := z_m2 a b
  have h5 := z_gcd2 (c - a) (e - b)
  omega
theorem z_par : (zp_area x y n + zp_rim x y n) % 2 = 0 := by
  have key : ∀ m, (zp_sum (fun i => x i * y (zp_nx n i) - y i * x (zp_nx n i)) m + zp_sum (fun i => (Int.gcd (x (zp_nx n i) - x i) (y (zp_nx n i) - y i) : Int)) m + zp_sum (fun i => (fun j => x j + y j + x j * y j) (zp_nx n i)) m + zp_sum (fun j => x j + y j + x j * y j) m) % 2 = 0 := by
    intro m
    induction m with
    | zero => rfl
    | succ m ih =>
      have he := z_edge (x m) (y m) (x (zp_nx n m)) (y (zp_nx n m))
      simp only [zp_sum] at ih ⊢
      generalize zp_sum (fun i => x i * y (zp_nx n i) - y i * x (zp_nx n i)) m = s1 at *
      generalize zp_sum (fun i => (Int.gcd (x (zp_nx n i) - x i) (y (zp_nx n i) - y i) : Int)) m = s2 at *
      generalize zp_sum (fun j => x j + y j + x j * y j) m = s3 at *
      generalize zp_sum (fun i => x (zp_nx n i) + y (zp_nx n i) + x (zp_nx n i) * y (zp_nx n i)) m = s4 at *
      omega
  have h := key n
  rw [zp_sum_cyc (fun j => x j + y j + x j * y j)] at h
  unfold zp_area zp_rim
  omega
end RZGW
