/-! part 97z2: level 2: isSound: half of the sums of two coins lack -/
section RZXB
variable {X : rz_X} {d : Nat} {w w1 : rz_W} {nc ns : Nat} {v : Nat → Nat}
/-- what two coins make -/
def zy_M (a b s : Int) : Prop := ∃ p q : Int, 0 ≤ p ∧ 0 ≤ q ∧ s = a * p + b * q
theorem zy_rep {a b u t s x y : Int} (ha : 2 ≤ a) (hb : 2 ≤ b) (hu : a * u + b * t = 1) (hx : 0 ≤ x ∧ x < b) (hs : s = a * x + b * y) : zy_M a b s ↔ 0 ≤ y := by
  constructor
  · rintro ⟨p, q, hp, hq, e⟩
    have hd : b ∣ p - x := by
      have e2 : a * (p - x) = b * (y - q) := by grind
      refine ⟨(y - q) * u + t * (p - x), ?_⟩
      grind
    obtain ⟨c, hc⟩ := hd
    have hc0 : 0 ≤ c := by
      rcases Int.lt_or_le c 0 with h | h
      · have := Int.mul_le_mul_of_nonneg_left (show c ≤ -1 by omega) (show 0 ≤ b by omega)
        omega
      · exact h
    have e3 : b * y = b * (q + a * c) := by grind
    have e4 : y = q + a * c := Int.eq_of_mul_eq_mul_left (show b ≠ 0 by omega) e3
    have := Int.mul_nonneg (show 0 ≤ a by omega) hc0
    omega
  · intro hy
    exact ⟨x, y, hx.1, hy, hs⟩
theorem zy_sym {a b u t s : Int} (ha : 2 ≤ a) (hb : 2 ≤ b) (hu : a * u + b * t = 1) : zy_M a b s ↔ ¬ zy_M a b (a * b - a - b - s) := by
  have e1 := Int.emod_add_mul_ediv (s * u) b
  have e2 := Int.emod_nonneg (s * u) (show b ≠ 0 by omega)
  have e3 := Int.emod_lt_of_pos (s * u) (show 0 < b by omega)
  have hs : s = a * ((s * u) % b) + b * (a * ((s * u) / b) + s * t) := by
    generalize (s * u) % b = r at *
    generalize (s * u) / b = k at *
    grind
  have h1 := zy_rep ha hb hu ⟨e2, e3⟩ hs
  have hg : a * b - a - b - s = a * (b - 1 - (s * u) % b) + b * (-1 - (a * ((s * u) / b) + s * t)) := by
    generalize (s * u) % b = r at *
    generalize (s * u) / b = k at *
    grind
  have h2 := zy_rep ha hb hu (x := b - 1 - (s * u) % b) ⟨by omega, by omega⟩ hg
  rw [h1, h2]
  omega
theorem zy_made {s : Nat} (hv : ∀ k, k < 2 → 1 ≤ v k) : 0 ≤ zf_G v 2 s ↔ zy_M (v 0) (v 1) s := by
  have h1 : ∀ m s, zf_rep v 2 m s → ∃ p q : Nat, s = v 0 * p + v 1 * q := by
    intro m
    induction m with
    | zero =>
      intro s h
      have : s = 0 := h
      exact ⟨0, 0, by rw [this]; rfl⟩
    | succ m ih =>
      rintro s ⟨k, hk, hle, h⟩
      obtain ⟨p, q, e⟩ := ih _ h
      rcases (show k = 0 ∨ k = 1 by omega) with rfl | rfl
      · exact ⟨p + 1, q, by rw [Nat.mul_add]; omega⟩
      · exact ⟨p, q + 1, by rw [Nat.mul_add]; omega⟩
  have h2 : ∀ n p q : Nat, p + q = n → zf_rep v 2 n (v 0 * p + v 1 * q) := by
    intro n
    induction n with
    | zero =>
      intro p q h
      obtain rfl : p = 0 := by omega
      obtain rfl : q = 0 := by omega
      rfl
    | succ n ih =>
      intro p q h
      cases p with
      | zero =>
        cases q with
        | zero => omega
        | succ q =>
          refine ⟨1, by omega, by rw [Nat.mul_add]; omega, ?_⟩
          have := ih 0 q (by omega)
          rw [show v 0 * 0 + v 1 * (q + 1) - v 1 = v 0 * 0 + v 1 * q by rw [Nat.mul_add]; omega]
          exact this
      | succ p =>
        refine ⟨0, by omega, by rw [Nat.mul_add]; omega, ?_⟩
        have := ih p q (by omega)
        rw [show v 0 * (p + 1) + v 1 * q - v 0 = v 0 * p + v 1 * q by rw [Nat.mul_add]; omega]
        exact this
  constructor
  · intro h
    rcases zf_G_isM 2 hv s with ⟨e, -⟩ | ⟨m, -, hm, -⟩
    · omega
    · obtain ⟨p, q, e⟩ := h1 m s hm
      exact ⟨p, q, by omega, by omega, by rw [e]; simp⟩
  · rintro ⟨p, q, hp, hq, e⟩
    obtain ⟨p, rfl⟩ := Int.eq_ofNat_of_zero_le hp
    obtain ⟨q, rfl⟩ := Int.eq_ofNat_of_zero_le hq
    have e2 : s = v 0 * p + v 1 * q := by
      have : ((s : Nat) : Int) = ((v 0 * p + v 1 * q : Nat) : Int) := by rw [e]; simp
      omega
    rcases zf_G_isM 2 hv s with ⟨-, hn⟩ | ⟨m, e3, -, -⟩
    · exact absurd (by rw [e2]; exact h2 _ p q rfl) (hn (p + q))
    · omega
/-- the sums' lacks, mirrored at the greatest -/
theorem zy_mirror (h0 : 2 ≤ v 0) (h1 : 2 ≤ v 1) (hg : Nat.gcd (v 0) (v 1) = 1) : ∃ g : Nat, (g : Int) = (v 0 : Int) * (v 1 : Int) - (v 0 : Int) - (v 1 : Int) ∧ 1 ≤ g ∧ (∀ s, s ≤ g → (zf_G v 2 s < 0 ↔ ¬ zf_G v 2 (g - s) < 0)) ∧ ∀ s, g < s → ¬ zf_G v 2 s < 0 := by
  have hv : ∀ k, k < 2 → 1 ≤ v k := by
    intro k hk
    rcases (show k = 0 ∨ k = 1 by omega) with rfl | rfl <;> omega
  obtain ⟨u, t, hbz⟩ := z_bezI (v 0 : Int) (v 1 : Int)
  rw [Int.gcd_natCast_natCast, hg] at hbz
  have hp : (v 0 : Int) + (v 1 : Int) + 1 ≤ (v 0 : Int) * (v 1 : Int) := by
    obtain ⟨a, ha⟩ : ∃ a, v 0 = a + 2 := ⟨v 0 - 2, by omega⟩
    obtain ⟨b, hb⟩ : ∃ b, v 1 = b + 2 := ⟨v 1 - 2, by omega⟩
    rw [ha, hb] at hg ⊢
    have e : ((a + 2 : Nat) : Int) * ((b + 2 : Nat) : Int) = (a : Int) * (b : Int) + 2 * a + 2 * b + 4 := by
      rw [Int.natCast_add, Int.natCast_add]
      grind
    have hn := Int.mul_nonneg (show 0 ≤ (a : Int) by omega) (show 0 ≤ (b : Int) by omega)
    rw [e]
    by_cases h00 : a = 0 ∧ b = 0
    · rw [h00.1, h00.2] at hg
      exact absurd hg (by decide)
    · omega
  obtain ⟨g, hgg⟩ := Int.eq_ofNat_of_zero_le (show 0 ≤ (v 0 : Int) * (v 1 : Int) - (v 0 : Int) - (v 1 : Int) by omega)
  refine ⟨g, hgg.symm, by omega, fun s hs => ?_, fun s hs => ?_⟩
  · have m1 := zy_made (s := s) hv
    have m2 := zy_made (s := g - s) hv
    have hsy := zy_sym (s := (s : Int)) (show (2 : Int) ≤ (v 0 : Int) by omega) (show (2 : Int) ≤ (v 1 : Int) by omega) hbz
    rw [show (v 0 : Int) * (v 1 : Int) - (v 0 : Int) - (v 1 : Int) - (s : Int) = ((g - s : Nat) : Int) by omega] at hsy
    rw [← m1, ← m2] at hsy
    omega
  · have m1 := zy_made (s := s) hv
    have hsy := zy_sym (s := (s : Int)) (show (2 : Int) ≤ (v 0 : Int) by omega) (show (2 : Int) ≤ (v 1 : Int) by omega) hbz
    have : ¬ zy_M (v 0) (v 1) ((v 0 : Int) * (v 1 : Int) - (v 0 : Int) - (v 1 : Int) - (s : Int)) := by
      rintro ⟨p, q, hp2, hq2, e⟩
      have a1 := Int.mul_nonneg (show 0 ≤ (v 0 : Int) by omega) hp2
      have a2 := Int.mul_nonneg (show 0 ≤ (v 1 : Int) by omega) hq2
      omega
    have := m1.mpr (hsy.mpr this)
    omega
end RZXB
