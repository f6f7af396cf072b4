/-! part 95: level 2: two short steps: the numbers -/
section RZRE
def zr_N (x y : Int) : Int := x * x + y * y
def zr_p (x y u v : Int) : Int := x * u + y * v
def zr_t (x y u v : Int) : Int := (2 * zr_p x y u v + zr_N x y) / (2 * zr_N x y)
/-- so many rounds of making two steps shorter -/
def zr_red : Nat → Int → Int → Int → Int → Option (Int × Int × Int × Int)
  | 0, _, _, _, _ => none
  | n + 1, x, y, u, v =>
    if zr_N u v < zr_N x y then
      if zr_t u v x y = 0 then some (u, v, x, y) else zr_red n u v (x - zr_t u v x y * u) (y - zr_t u v x y * v)
    else
      if zr_t x y u v = 0 then some (x, y, u, v) else zr_red n x y (u - zr_t x y u v * x) (v - zr_t x y u v * y)
theorem zr_N_nn (x y : Int) : 0 ≤ zr_N x y := by
  unfold zr_N
  have h : ∀ a : Int, 0 ≤ a * a := fun a => by
    rcases Int.le_total 0 a with h | h
    · exact Int.mul_nonneg h h
    · have := Int.mul_nonneg (show 0 ≤ -a by omega) (show 0 ≤ -a by omega)
      rw [Int.neg_mul_neg] at this
      exact this
  have := h x
  have := h y
  omega
theorem zr_sq {a : Int} (h : a * a ≤ 0) : a = 0 := by
  rcases Int.lt_trichotomy a 0 with h1 | h1 | h1
  · have := Int.mul_pos (show 0 < -a by omega) (show 0 < -a by omega)
    rw [Int.neg_mul_neg] at this
    omega
  · exact h1
  · have := Int.mul_pos h1 h1
    omega
theorem zr_sqn (a : Int) : 0 ≤ a * a := by
  have := zr_N_nn a 0
  unfold zr_N at this
  omega
theorem zr_N_pos {x y u v : Int} (h : x * v - y * u ≠ 0) : 0 < zr_N x y := by
  rcases Int.lt_or_le 0 (zr_N x y) with h1 | h1
  · exact h1
  · exfalso
    have a := zr_sqn x
    have b := zr_sqn y
    unfold zr_N at h1
    have hx := zr_sq (a := x) (by omega)
    have hy := zr_sq (a := y) (by omega)
    rw [hx, hy] at h
    omega
theorem zr_quo {x y u v : Int} (hN : 0 < zr_N x y) : -zr_N x y ≤ 2 * (zr_p x y u v - zr_t x y u v * zr_N x y) ∧ 2 * (zr_p x y u v - zr_t x y u v * zr_N x y) < zr_N x y := by
  unfold zr_t
  have h1 := Int.mul_ediv_add_emod (2 * zr_p x y u v + zr_N x y) (2 * zr_N x y)
  have h2 := Int.emod_nonneg (2 * zr_p x y u v + zr_N x y) (show 2 * zr_N x y ≠ 0 by omega)
  have h3 := Int.emod_lt_of_pos (2 * zr_p x y u v + zr_N x y) (show 0 < 2 * zr_N x y by omega)
  generalize (2 * zr_p x y u v + zr_N x y) / (2 * zr_N x y) = t at *
  rw [Int.mul_assoc, Int.mul_comm (zr_N x y) t] at h1
  generalize t * zr_N x y = z at *
  omega
theorem zr_p_sub (x y u v t : Int) : zr_p x y (u - t * x) (v - t * y) = zr_p x y u v - t * zr_N x y := by
  unfold zr_p zr_N; grind
theorem zr_N_sub (x y u v t : Int) : zr_N (u - t * x) (v - t * y) = zr_N u v - t * (2 * zr_p x y u v - t * zr_N x y) := by
  unfold zr_p zr_N; grind
theorem zr_det_sub (x y u v t : Int) : x * (v - t * y) - y * (u - t * x) = x * v - y * u := by grind
/-- a round never makes the second step longer -/
theorem zr_shorter {x y u v : Int} (hN : 0 < zr_N x y) : zr_N (u - zr_t x y u v * x) (v - zr_t x y u v * y) ≤ zr_N u v := by
  rw [zr_N_sub]
  have h := zr_quo (x := x) (y := y) (u := u) (v := v) hN
  generalize zr_t x y u v = t at *
  have key : 0 ≤ t * (2 * zr_p x y u v - t * zr_N x y) := by
    rcases Int.lt_trichotomy t 0 with h1 | h1 | h1
    · have h2 := Int.mul_le_mul_of_nonneg_right (show t ≤ -1 by omega) (show 0 ≤ zr_N x y by omega)
      rw [Int.neg_mul, Int.one_mul] at h2
      have := Int.mul_nonneg (show 0 ≤ -t by omega) (show 0 ≤ -(2 * zr_p x y u v - t * zr_N x y) by rw [Int.mul_sub] at h; omega)
      rw [Int.neg_mul_neg] at this
      exact this
    · rw [h1, Int.zero_mul]; omega
    · have h2 := Int.mul_le_mul_of_nonneg_right (show 1 ≤ t by omega) (show 0 ≤ zr_N x y by omega)
      rw [Int.one_mul] at h2
      exact Int.mul_nonneg (by omega) (by rw [Int.mul_sub] at h; omega)
  omega
theorem zr_mono {n m : Nat} : ∀ {x y u v : Int} {r}, zr_red n x y u v = some r → zr_red (n + m) x y u v = some r := by
  induction n with
  | zero => intro x y u v r h; cases h
  | succ n ih =>
    intro x y u v r h
    rw [show n + 1 + m = (n + m) + 1 by omega]
    unfold zr_red at h ⊢
    by_cases c : zr_N u v < zr_N x y
    · rw [if_pos c] at h ⊢
      by_cases e : zr_t u v x y = 0
      · rw [if_pos e] at h ⊢; exact h
      · rw [if_neg e] at h ⊢; exact ih h
    · rw [if_neg c] at h ⊢
      by_cases e : zr_t x y u v = 0
      · rw [if_pos e] at h ⊢; exact h
      · rw [if_neg e] at h ⊢; exact ih h
theorem zr_t0 {x y u v : Int} (hN : 0 < zr_N x y) (h1 : -zr_N x y ≤ 2 * zr_p x y u v) (h2 : 2 * zr_p x y u v < zr_N x y) : zr_t x y u v = 0 := by
  unfold zr_t
  exact Int.ediv_eq_zero_of_lt (by omega) (by omega)
theorem zr_p_comm (x y u v : Int) : zr_p u v x y = zr_p x y u v := by unfold zr_p; grind
/-- from a state whose second step is shortened by the first -/
theorem zr_rounds (k : Nat) : ∀ {x y u v : Int}, x * v - y * u ≠ 0 → -zr_N x y ≤ 2 * zr_p x y u v → 2 * zr_p x y u v < zr_N x y → zr_N x y < (2 : Int) ^ k → ∃ r, zr_red (k + 2) x y u v = some r := by
  induction k with
  | zero =>
    intro x y u v hD h1 h2 h3
    have := zr_N_pos hD
    rw [Int.pow_zero] at h3
    omega
  | succ k ih =>
    intro x y u v hD h1 h2 h3
    have hN := zr_N_pos hD
    rw [show k + 1 + 2 = (k + 2) + 1 by omega]
    unfold zr_red
    by_cases c : zr_N u v < zr_N x y
    · rw [if_pos c]
      by_cases e : zr_t u v x y = 0
      · rw [if_pos e]; exact ⟨_, rfl⟩
      · rw [if_neg e]
        have hD' : u * y - v * x ≠ 0 := by
          intro h
          apply hD
          rw [Int.mul_comm x v, Int.mul_comm y u]
          omega
        have hM := zr_N_pos hD'
        have hq := zr_quo (x := u) (y := v) (u := x) (v := y) hM
        have hps := zr_p_sub u v x y (zr_t u v x y)
        have hns := zr_N_sub u v x y (zr_t u v x y)
        have hds := zr_det_sub u v x y (zr_t u v x y)
        rw [zr_p_comm] at hns
        rw [← zr_p_sub] at hq
        rcases Int.lt_or_le (zr_N x y) (2 * zr_N u v) with h4 | h4
        · -- the next round ends
          have ht : zr_t u v x y = 1 ∨ zr_t u v x y = -1 := by
            have hp := zr_p_comm x y u v
            have h5 : -1 ≤ zr_t u v x y := by
              unfold zr_t
              refine Int.le_ediv_of_mul_le (by omega) ?_
              omega
            have h6 : zr_t u v x y < 2 := by
              unfold zr_t
              refine Int.ediv_lt_of_lt_mul (by omega) ?_
              omega
            omega
          have hlast : zr_N u v ≤ zr_N (x - zr_t u v x y * u) (y - zr_t u v x y * v) := by
            rw [hns]
            rcases ht with ht | ht
            · rw [ht]; omega
            · rw [ht]; omega
          refine ⟨(u, v, x - zr_t u v x y * u, y - zr_t u v x y * v), ?_⟩
          rw [show k + 2 = (k + 1) + 1 by omega]
          generalize x - zr_t u v x y * u = x' at *
          generalize y - zr_t u v x y * v = y' at *
          unfold zr_red
          rw [if_neg (by omega), if_pos (zr_t0 hM hq.1 hq.2)]
        · refine ih (by rw [hds]; exact hD') hq.1 hq.2 ?_
          rw [Int.pow_succ] at h3
          omega
    · rw [if_neg c, if_pos (zr_t0 hN h1 h2)]
      exact ⟨_, rfl⟩
theorem zr_ends {x y u v : Int} (hD : x * v - y * u ≠ 0) (h1 : zr_N x y < 2 ^ 41) (h2 : zr_N u v < 2 ^ 41) : ∃ r, zr_red 50 x y u v = some r := by
  rw [show (50 : Nat) = 43 + 6 + 1 by omega]
  have hD' : u * y - v * x ≠ 0 := by
    intro h
    apply hD
    rw [Int.mul_comm x v, Int.mul_comm y u]
    omega
  unfold zr_red
  by_cases c : zr_N u v < zr_N x y
  · rw [if_pos c]
    by_cases e : zr_t u v x y = 0
    · rw [if_pos e]; exact ⟨_, rfl⟩
    · rw [if_neg e]
      have hq := zr_quo (x := u) (y := v) (u := x) (v := y) (zr_N_pos hD')
      rw [← zr_p_sub] at hq
      obtain ⟨r, hr⟩ := zr_rounds 41 (by rw [zr_det_sub]; exact hD') hq.1 hq.2 h2
      exact ⟨r, zr_mono (m := 6) hr⟩
  · rw [if_neg c]
    by_cases e : zr_t x y u v = 0
    · rw [if_pos e]; exact ⟨_, rfl⟩
    · rw [if_neg e]
      have hq := zr_quo (x := x) (y := y) (u := u) (v := v) (zr_N_pos hD)
      rw [← zr_p_sub] at hq
      obtain ⟨r, hr⟩ := zr_rounds 41 (by rw [zr_det_sub]; exact hD) hq.1 hq.2 h1
      exact ⟨r, zr_mono (m := 6) hr⟩
/-- what the shortened steps are like -/
theorem zr_res {B : Int} {M : Int → Int → Prop} (hM : ∀ x y u v t : Int, M x y → M u v → M (u - t * x) (v - t * y)) (n : Nat) : ∀ {x y u v r1 r2 r3 r4 : Int}, x * v - y * u ≠ 0 → zr_N x y ≤ B → zr_N u v ≤ B → M x y → M u v → zr_red n x y u v = some (r1, r2, r3, r4) → (r1 * r4 - r2 * r3 = x * v - y * u ∨ r1 * r4 - r2 * r3 = -(x * v - y * u)) ∧ zr_N r1 r2 ≤ zr_N r3 r4 ∧ zr_N r3 r4 ≤ B ∧ M r1 r2 ∧ M r3 r4 ∧ -zr_N r1 r2 ≤ 2 * zr_p r1 r2 r3 r4 ∧ 2 * zr_p r1 r2 r3 r4 < zr_N r1 r2 := by
  induction n with
  | zero => intro x y u v r1 r2 r3 r4 _ _ _ _ _ h; cases h
  | succ n ih =>
    intro x y u v r1 r2 r3 r4 hD h1 h2 m1 m2 h
    have hD' : u * y - v * x ≠ 0 := by
      intro h
      apply hD
      rw [Int.mul_comm x v, Int.mul_comm y u]
      omega
    have hDD : u * y - v * x = -(x * v - y * u) := by grind
    unfold zr_red at h
    by_cases c : zr_N u v < zr_N x y
    · rw [if_pos c] at h
      by_cases e : zr_t u v x y = 0
      · rw [if_pos e] at h
        simp only [Option.some.injEq, Prod.mk.injEq] at h
        obtain ⟨rfl, rfl, rfl, rfl⟩ := h
        have hq := zr_quo (x := u) (y := v) (u := x) (v := y) (zr_N_pos hD')
        rw [e, Int.zero_mul, Int.sub_zero] at hq
        exact ⟨.inr hDD, by omega, h1, m2, m1, hq.1, hq.2⟩
      · rw [if_neg e] at h
        have hs := zr_shorter (x := u) (y := v) (u := x) (v := y) (zr_N_pos hD')
        have := ih (by rw [zr_det_sub]; exact hD') h2 (by omega) m2 (hM _ _ _ _ _ m2 m1) h
        rw [zr_det_sub, hDD, Int.neg_neg] at this
        exact ⟨this.1.symm, this.2⟩
    · rw [if_neg c] at h
      by_cases e : zr_t x y u v = 0
      · rw [if_pos e] at h
        simp only [Option.some.injEq, Prod.mk.injEq] at h
        obtain ⟨rfl, rfl, rfl, rfl⟩ := h
        have hq := zr_quo (x := x) (y := y) (u := u) (v := v) (zr_N_pos hD)
        rw [e, Int.zero_mul, Int.sub_zero] at hq
        exact ⟨.inl rfl, by omega, h2, m1, m2, hq.1, hq.2⟩
      · rw [if_neg e] at h
        have hs := zr_shorter (x := x) (y := y) (u := u) (v := v) (zr_N_pos hD)
        have := ih (by rw [zr_det_sub]; exact hD) h1 (by omega) m1 (hM _ _ _ _ _ m1 m2) h
        rw [zr_det_sub] at this
        exact this
theorem zr_cb {x y B : Int} (h : zr_N x y ≤ B) (hB : B ≤ 2 ^ 41) : x.natAbs ≤ 1500000 ∧ y.natAbs ≤ 1500000 := by
  have h1 := zr_sqn x
  have h2 := zr_sqn y
  unfold zr_N at h
  have key : ∀ a : Int, a * a ≤ 2 ^ 41 → a.natAbs ≤ 1500000 := by
    intro a ha
    rcases Nat.lt_or_ge 1500000 a.natAbs with h3 | h3
    · have h4 := Nat.mul_le_mul h3 h3
      have h5 : ((a.natAbs * a.natAbs : Nat) : Int) = a * a := by rw [← Int.natAbs_mul, Int.natAbs_of_nonneg (zr_sqn a)]
      omega
    · exact h3
  exact ⟨key x (by omega), key y (by omega)⟩
theorem zr_tb {x y u v : Int} (hN : 0 < zr_N x y) : (zr_t x y u v).natAbs ≤ (2 * zr_p x y u v + zr_N x y).natAbs := by
  unfold zr_t
  generalize 2 * zr_p x y u v + zr_N x y = a
  generalize hb : 2 * zr_N x y = b
  have hb0 : 0 < b := by omega
  have h1 := Int.mul_ediv_add_emod a b
  have h2 := Int.emod_nonneg a (show b ≠ 0 by omega)
  have h3 := Int.emod_lt_of_pos a hb0
  rcases Int.lt_or_le a 0 with h | h
  · have h4 : a / b < 0 := Int.ediv_neg_of_neg_of_pos h hb0
    have h5 : a ≤ a / b := by
      refine Int.le_ediv_of_mul_le hb0 ?_
      have := Int.mul_nonneg (show 0 ≤ -a by omega) (show 0 ≤ b - 1 by omega)
      rw [Int.mul_sub, Int.mul_one, Int.neg_mul] at this
      omega
    omega
  · have h4 := Int.ediv_nonneg h (show 0 ≤ b by omega)
    have h5 := Int.ediv_le_self b h
    omega
end RZRE
