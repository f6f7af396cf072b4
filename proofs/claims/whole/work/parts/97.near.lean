/-! part 97: level 2: the nearest point: two searches find the same -/
section RZNX
def zn_up (e : Int × Int) (b : Option (Int × Int)) : Option (Int × Int) := match b with
  | none => some e
  | some c => if zt_lt e c then some e else some c
def zn_I (C : Int × Int → Prop) (b : Option (Int × Int)) : Prop := (b = none ∧ ∀ s, ¬ C s) ∨ ∃ e, b = some e ∧ C e ∧ ∀ s, C s → ¬ zt_lt s e
theorem zn_step {C C' : Int × Int → Prop} {b : Option (Int × Int)} {e : Int × Int} (h : zn_I C b) (hC : ∀ s, C' s ↔ C s ∨ s = e) : zn_I C' (zn_up e b) := by
  rcases h with ⟨rfl, h⟩ | ⟨c, rfl, h1, h2⟩
  · exact .inr ⟨e, rfl, (hC e).mpr (.inr rfl), fun s hs => by
      rcases (hC s).mp hs with h3 | h3
      · exact absurd h3 (h s)
      · rw [h3]; exact zt_irr⟩
  · unfold zn_up
    dsimp only
    by_cases h3 : zt_lt e c
    · rw [if_pos h3]
      refine .inr ⟨e, rfl, (hC e).mpr (.inr rfl), fun s hs => ?_⟩
      rcases (hC s).mp hs with h4 | h4
      · exact fun h5 => h2 s h4 (zt_tr h5 h3)
      · rw [h4]; exact zt_irr
    · rw [if_neg h3]
      refine .inr ⟨c, rfl, (hC c).mpr (.inl h1), fun s hs => ?_⟩
      rcases (hC s).mp hs with h4 | h4
      · exact h2 s h4
      · rw [h4]; exact h3
theorem zn_iff {C C' : Int × Int → Prop} {b : Option (Int × Int)} (h : zn_I C b) (hC : ∀ s, C s ↔ C' s) : zn_I C' b := by
  rcases h with ⟨rfl, h⟩ | ⟨c, rfl, h1, h2⟩
  · exact .inl ⟨rfl, fun s hs => h s ((hC s).mpr hs)⟩
  · exact .inr ⟨c, rfl, (hC c).mp h1, fun s hs => h2 s ((hC s).mpr hs)⟩
/-- a point of the grid, seen from a place -/
def zn_e (c : Int × Int × Int × Int) (x y k l : Int) : Int × Int := (k * c.1 + l * c.2.2.1 - x, k * c.2.1 + l * c.2.2.2 - y)
/-- the box, up to i, j -/
def zn_C (c : Int × Int × Int × Int) (x y a b w i j : Int) (s : Int × Int) : Prop := ∃ k l : Int, (a ≤ k ∧ k < a + w) ∧ (b ≤ l ∧ l < b + w) ∧ (k < i ∨ (k = i ∧ l < j)) ∧ s = zn_e c x y k l
theorem zn_C_step {c : Int × Int × Int × Int} {x y a b w i j : Int} (hi : a ≤ i ∧ i < a + w) (hj : b ≤ j ∧ j < b + w) (s : Int × Int) : zn_C c x y a b w i (j + 1) s ↔ zn_C c x y a b w i j s ∨ s = zn_e c x y i j := by
  constructor
  · rintro ⟨k, l, h1, h2, h3, h4⟩
    by_cases c : k = i ∧ l = j
    · obtain ⟨rfl, rfl⟩ := c
      exact .inr h4
    · exact .inl ⟨k, l, h1, h2, by omega, h4⟩
  · rintro (⟨k, l, h1, h2, h3, h4⟩ | h)
    · exact ⟨k, l, h1, h2, by omega, h4⟩
    · exact ⟨i, j, hi, hj, by omega, h⟩
theorem zn_C_row {c : Int × Int × Int × Int} {x y a b w i : Int} (s : Int × Int) : zn_C c x y a b w i (b + w) s ↔ zn_C c x y a b w (i + 1) b s := by
  constructor
  · rintro ⟨k, l, h1, h2, h3, h4⟩
    exact ⟨k, l, h1, h2, by omega, h4⟩
  · rintro ⟨k, l, h1, h2, h3, h4⟩
    exact ⟨k, l, h1, h2, by omega, h4⟩
/-- how far off, in the basis's own measure, times the index -/
def zn_s (c : Int × Int × Int × Int) (e : Int × Int) : Int := e.1 * c.2.2.2 - e.2 * c.2.2.1
def zn_t (c : Int × Int × Int × Int) (e : Int × Int) : Int := c.1 * e.2 - c.2.1 * e.1
def zn_d (c : Int × Int × Int × Int) : Int := c.1 * c.2.2.2 - c.2.1 * c.2.2.1
theorem zn_s_e (c : Int × Int × Int × Int) (x y k l : Int) : zn_s c (zn_e c x y k l) = k * zn_d c - (x * c.2.2.2 - y * c.2.2.1) := by
  unfold zn_s zn_e zn_d; dsimp only; grind
theorem zn_t_e (c : Int × Int × Int × Int) (x y k l : Int) : zn_t c (zn_e c x y k l) = l * zn_d c - (c.1 * y - c.2.1 * x) := by
  unfold zn_t zn_e zn_d; dsimp only; grind
theorem zn_floor {n A i m : Int} (hA : 0 < A) (hm : 1 ≤ m) : (-(m * A) ≤ i * A - n → i * A - n ≤ m * A → n / A - m ≤ i ∧ i ≤ n / A + (m + 1)) ∧ (n / A - m ≤ i → i ≤ n / A + (m + 1) → -((m + 1) * A) ≤ i * A - n ∧ i * A - n ≤ (m + 1) * A) := by
  have h1 := Int.mul_ediv_add_emod n A
  have h2 := Int.emod_nonneg n (show A ≠ 0 by omega)
  have h3 := Int.emod_lt_of_pos n hA
  generalize n / A = q at *
  generalize n % A = r at *
  have e : i * A - n = (i - q) * A - r := by rw [Int.sub_mul, Int.mul_comm q A]; omega
  rw [e]
  constructor
  · intro h4 h5
    constructor
    · rcases Int.lt_or_le i (q - m) with h6 | h6
      · have := Int.mul_le_mul_of_nonneg_right (show i - q ≤ -(m + 1) by omega) (show 0 ≤ A by omega)
        rw [Int.neg_mul, Int.add_mul] at this
        omega
      · exact h6
    · rcases Int.lt_or_le (q + (m + 1)) i with h6 | h6
      · have := Int.mul_le_mul_of_nonneg_right (show m + 2 ≤ i - q by omega) (show 0 ≤ A by omega)
        rw [Int.add_mul] at this
        omega
      · exact h6
  · intro h4 h5
    have k1 := Int.mul_le_mul_of_nonneg_right (show i - q ≤ m + 1 by omega) (show 0 ≤ A by omega)
    have k2 := Int.mul_le_mul_of_nonneg_right (show -m ≤ i - q by omega) (show 0 ≤ A by omega)
    rw [Int.neg_mul] at k2
    rw [Int.add_mul] at k1 ⊢
    omega
/-- what no step of the basis makes shorter is close by -/
theorem zn_close {S T A N1 N2 p : Int} (hN : N1 ≤ N2) (h0 : 0 < N1) (hp : 2 * p ≤ N1 ∧ -N1 ≤ 2 * p) (hA : A * A = N1 * N2 - p * p) (hA0 : 0 < A) (h1 : 2 * (S * N1 + T * p) ≤ A * N1 ∧ -(A * N1) ≤ 2 * (S * N1 + T * p)) (h2 : 2 * (S * p + T * N2) ≤ A * N2 ∧ -(A * N2) ≤ 2 * (S * p + T * N2)) : (-A ≤ S ∧ S ≤ A) ∧ -A ≤ T ∧ T ≤ A := by
  have mulle : ∀ {a b c : Int}, a ≤ b → 0 ≤ c → a * c ≤ b * c := fun h hc => Int.mul_le_mul_of_nonneg_right h hc
  have nn : 0 < N1 * N2 := Int.mul_pos h0 (by omega)
  -- p² ≤ N1 N2 / 4
  have pp : 4 * (p * p) ≤ N1 * N2 := by
    have a1 : (2 * p) * (2 * p) ≤ N1 * N1 := by
      have a2 := Int.mul_nonneg (show 0 ≤ N1 - 2 * p by omega) (show 0 ≤ N1 + 2 * p by omega)
      have : (N1 - 2 * p) * (N1 + 2 * p) = N1 * N1 - (2 * p) * (2 * p) := by grind
      omega
    have a3 := Int.mul_le_mul_of_nonneg_left hN (show 0 ≤ N1 by omega)
    have a4 : (2 * p) * (2 * p) = 4 * (p * p) := by grind
    omega
  have hD : 3 * (N1 * N2) ≤ 4 * (A * A) := by omega
  -- bounds of the two combinations
  have ANN : 0 < A * (N1 * N2) := Int.mul_pos hA0 nn
  have bound : ∀ Z : Int, 4 * (Z * (A * A)) ≤ 3 * (A * (N1 * N2)) → Z ≤ A := by
    intro Z h
    rcases Int.lt_or_le A Z with h3 | h3
    · exfalso
      have c1 := mulle (show A + 1 ≤ Z by omega) (show 0 ≤ A * A by exact Int.mul_nonneg (by omega) (by omega))
      have c2 := Int.mul_le_mul_of_nonneg_left hD (show 0 ≤ A + 1 by omega)
      have c3 : (A + 1) * (3 * (N1 * N2)) = 3 * (A * (N1 * N2)) + 3 * (N1 * N2) := by grind
      have c4 : (A + 1) * (4 * (A * A)) = 4 * ((A + 1) * (A * A)) := by grind
      omega
    · exact h3
  -- |p| times a bound
  have pb : ∀ {w M : Int}, 0 ≤ M → 2 * w ≤ M → -M ≤ 2 * w → -(M * N1) ≤ 4 * (p * w) ∧ 4 * (p * w) ≤ M * N1 := by
    intro w M hM k1 k2
    have u1 := Int.mul_nonneg (show 0 ≤ M - 2 * w by omega) (show 0 ≤ N1 + 2 * p by omega)
    have u2 := Int.mul_nonneg (show 0 ≤ M + 2 * w by omega) (show 0 ≤ N1 - 2 * p by omega)
    have u3 := Int.mul_nonneg (show 0 ≤ M - 2 * w by omega) (show 0 ≤ N1 - 2 * p by omega)
    have u4 := Int.mul_nonneg (show 0 ≤ M + 2 * w by omega) (show 0 ≤ N1 + 2 * p by omega)
    have e1 : (M - 2 * w) * (N1 + 2 * p) + (M + 2 * w) * (N1 - 2 * p) = 2 * (M * N1 - 4 * (p * w)) := by grind
    have e2 : (M - 2 * w) * (N1 - 2 * p) + (M + 2 * w) * (N1 + 2 * p) = 2 * (M * N1 + 4 * (p * w)) := by grind
    omega
  have AN1 : 0 ≤ A * N1 := Int.mul_nonneg (by omega) (by omega)
  have AN2 : 0 ≤ A * N2 := Int.mul_nonneg (by omega) (by omega)
  have p1 := pb AN2 h2.1 h2.2
  have p2 := pb AN1 h1.1 h1.2
  have idS : S * (A * A) = N2 * (S * N1 + T * p) - p * (S * p + T * N2) := by rw [hA]; grind
  have idT : T * (A * A) = N1 * (S * p + T * N2) - p * (S * N1 + T * p) := by rw [hA]; grind
  have q1 := Int.mul_le_mul_of_nonneg_left h1.1 (show 0 ≤ N2 by omega)
  have q2 := Int.mul_le_mul_of_nonneg_left h1.2 (show 0 ≤ N2 by omega)
  have q3 := Int.mul_le_mul_of_nonneg_left h2.1 (show 0 ≤ N1 by omega)
  have q4 := Int.mul_le_mul_of_nonneg_left h2.2 (show 0 ≤ N1 by omega)
  have r1 : N2 * (A * N1) = A * (N1 * N2) := by grind
  have r2 : N1 * (A * N2) = A * (N1 * N2) := by grind
  have r3 : A * N2 * N1 = A * (N1 * N2) := by grind
  have r4 : A * N1 * N1 ≤ A * (N1 * N2) := by
    have : A * (N1 * N2) = A * N1 * N2 := by grind
    rw [this]
    exact Int.mul_le_mul_of_nonneg_left hN AN1
  have r5 : N2 * (2 * (S * N1 + T * p)) = 2 * (N2 * (S * N1 + T * p)) := by grind
  have r6 : N1 * (2 * (S * p + T * N2)) = 2 * (N1 * (S * p + T * N2)) := by grind
  have r7 : N2 * -(A * N1) = -(A * (N1 * N2)) := by grind
  have r8 : N1 * -(A * N2) = -(A * (N1 * N2)) := by grind
  refine ⟨⟨?_, bound S (by omega)⟩, ?_, bound T (by omega)⟩
  · have := bound (-S) (by rw [Int.neg_mul]; omega)
    omega
  · have := bound (-T) (by rw [Int.neg_mul]; omega)
    omega
theorem zn_fl (r : Int × Int × Int × Int) (x y : Int) : (∀ k l, ∃ k' l', zn_e (zr_fl r) x y k l = zn_e r x y k' l') ∧ (∀ k l, ∃ k' l', zn_e r x y k l = zn_e (zr_fl r) x y k' l') ∧ ∀ (e : Int × Int) (M : Nat), ((zn_s (zr_fl r) e).natAbs ≤ M ∧ (zn_t (zr_fl r) e).natAbs ≤ M) ↔ ((zn_s r e).natAbs ≤ M ∧ (zn_t r e).natAbs ≤ M) := by
  obtain ⟨r1, r2, r3, r4⟩ := r
  unfold zr_fl
  dsimp only
  split
  · split
    · refine ⟨fun k l => ⟨l, -k, ?_⟩, fun k l => ⟨-l, k, ?_⟩, fun e M => ?_⟩
      · unfold zn_e; dsimp only; apply Prod.ext <;> dsimp only <;> grind
      · unfold zn_e; dsimp only; apply Prod.ext <;> dsimp only <;> grind
      · have h1 : zn_s (-r3, -r4, r1, r2) e = -zn_t (r1, r2, r3, r4) e := by unfold zn_s zn_t; dsimp only; grind
        have h2 : zn_t (-r3, -r4, r1, r2) e = zn_s (r1, r2, r3, r4) e := by unfold zn_s zn_t; dsimp only; grind
        rw [h1, h2, Int.natAbs_neg]
        exact And.comm
    · refine ⟨fun k l => ⟨k, -l, ?_⟩, fun k l => ⟨k, -l, ?_⟩, fun e M => ?_⟩
      · unfold zn_e; dsimp only; apply Prod.ext <;> dsimp only <;> grind
      · unfold zn_e; dsimp only; apply Prod.ext <;> dsimp only <;> grind
      · have h1 : zn_s (r1, r2, -r3, -r4) e = -zn_s (r1, r2, r3, r4) e := by unfold zn_s; dsimp only; grind
        have h2 : zn_t (r1, r2, -r3, -r4) e = zn_t (r1, r2, r3, r4) e := by unfold zn_t; dsimp only
        rw [h1, h2, Int.natAbs_neg]
  · split
    · refine ⟨fun k l => ⟨l, k, ?_⟩, fun k l => ⟨l, k, ?_⟩, fun e M => ?_⟩
      · unfold zn_e; dsimp only; apply Prod.ext <;> dsimp only <;> grind
      · unfold zn_e; dsimp only; apply Prod.ext <;> dsimp only <;> grind
      · have h1 : zn_s (r3, r4, r1, r2) e = -zn_t (r1, r2, r3, r4) e := by unfold zn_s zn_t; dsimp only; grind
        have h2 : zn_t (r3, r4, r1, r2) e = -zn_s (r1, r2, r3, r4) e := by unfold zn_s zn_t; dsimp only; grind
        rw [h1, h2, Int.natAbs_neg, Int.natAbs_neg]
        exact And.comm
    · exact ⟨fun k l => ⟨k, l, rfl⟩, fun k l => ⟨k, l, rfl⟩, fun e M => Iff.rfl⟩
/-- both searches find the same point -/
theorem zn_same {r1 r2 r3 r4 x y A sg : Int} {ec er : Int × Int} (hN : zr_N r1 r2 ≤ zr_N r3 r4) (hp : -zr_N r1 r2 ≤ 2 * zr_p r1 r2 r3 r4 ∧ 2 * zr_p r1 r2 r3 r4 < zr_N r1 r2) (hA : 0 < A) (hsg : sg = 1 ∨ sg = -1) (hD : sg * (r1 * r4 - r2 * r3) = A) (hd : zn_d (zr_fl (r1, r2, r3, r4)) = A)
    (hc : zn_C (zr_fl (r1, r2, r3, r4)) x y ((x * (zr_fl (r1, r2, r3, r4)).2.2.2 - y * (zr_fl (r1, r2, r3, r4)).2.2.1) / A - 1) (((zr_fl (r1, r2, r3, r4)).1 * y - (zr_fl (r1, r2, r3, r4)).2.1 * x) / A - 1) 4 ((x * (zr_fl (r1, r2, r3, r4)).2.2.2 - y * (zr_fl (r1, r2, r3, r4)).2.2.1) / A - 1 + 4) (((zr_fl (r1, r2, r3, r4)).1 * y - (zr_fl (r1, r2, r3, r4)).2.1 * x) / A - 1) ec)
    (hcm : ∀ s, zn_C (zr_fl (r1, r2, r3, r4)) x y ((x * (zr_fl (r1, r2, r3, r4)).2.2.2 - y * (zr_fl (r1, r2, r3, r4)).2.2.1) / A - 1) (((zr_fl (r1, r2, r3, r4)).1 * y - (zr_fl (r1, r2, r3, r4)).2.1 * x) / A - 1) 4 ((x * (zr_fl (r1, r2, r3, r4)).2.2.2 - y * (zr_fl (r1, r2, r3, r4)).2.2.1) / A - 1 + 4) (((zr_fl (r1, r2, r3, r4)).1 * y - (zr_fl (r1, r2, r3, r4)).2.1 * x) / A - 1) s → ¬ zt_lt s ec)
    (hr : zn_C (r1, r2, r3, r4) x y (sg * (x * r4 - y * r3) / A - 3) (sg * (r1 * y - r2 * x) / A - 3) 8 (sg * (x * r4 - y * r3) / A - 3 + 8) (sg * (r1 * y - r2 * x) / A - 3) er)
    (hrm : ∀ s, zn_C (r1, r2, r3, r4) x y (sg * (x * r4 - y * r3) / A - 3) (sg * (r1 * y - r2 * x) / A - 3) 8 (sg * (x * r4 - y * r3) / A - 3 + 8) (sg * (r1 * y - r2 * x) / A - 3) s → ¬ zt_lt s er) : ec = er := by
  obtain ⟨f1, f2, f3⟩ := zn_fl (r1, r2, r3, r4) x y
  generalize hcc : zr_fl (r1, r2, r3, r4) = c at *
  have sgi : ∀ z : Int, (sg * z).natAbs = z.natAbs := by
    intro z
    rcases hsg with h | h
    · rw [h, Int.one_mul]
    · rw [h, Int.neg_mul, Int.one_mul, Int.natAbs_neg]
  obtain ⟨M, hM⟩ := Int.eq_ofNat_of_zero_le (show 0 ≤ A by omega)
  -- the basis's own measure of points of the reference's box
  have sr : ∀ k l, sg * zn_s (r1, r2, r3, r4) (zn_e (r1, r2, r3, r4) x y k l) = k * A - sg * (x * r4 - y * r3) := by
    intro k l
    rw [zn_s_e]
    unfold zn_d
    dsimp only
    rw [← hD]
    grind
  have tr : ∀ k l, sg * zn_t (r1, r2, r3, r4) (zn_e (r1, r2, r3, r4) x y k l) = l * A - sg * (r1 * y - r2 * x) := by
    intro k l
    rw [zn_t_e]
    unfold zn_d
    dsimp only
    rw [← hD]
    grind
  -- ec lies in the reference's box
  have in1 : zn_C (r1, r2, r3, r4) x y (sg * (x * r4 - y * r3) / A - 3) (sg * (r1 * y - r2 * x) / A - 3) 8 (sg * (x * r4 - y * r3) / A - 3 + 8) (sg * (r1 * y - r2 * x) / A - 3) ec := by
    obtain ⟨k, l, h1, h2, h3, h4⟩ := hc
    have s1 := zn_s_e c x y k l
    have t1 := zn_t_e c x y k l
    rw [hd, ← h4] at s1 t1
    have b1 := (zn_floor (n := x * c.2.2.2 - y * c.2.2.1) (A := A) (i := k) (m := 1) hA (by omega)).2 (by omega) (by omega)
    have b2 := (zn_floor (n := c.1 * y - c.2.1 * x) (A := A) (i := l) (m := 1) hA (by omega)).2 (by omega) (by omega)
    have b3 := (f3 ec (2 * M)).mp ⟨by omega, by omega⟩
    obtain ⟨k', l', h5⟩ := f1 k l
    rw [h4] at b3 ⊢
    rw [h5] at b3 ⊢
    have s2 := sr k' l'
    have t2 := tr k' l'
    have i1 := sgi (zn_s (r1, r2, r3, r4) (zn_e (r1, r2, r3, r4) x y k' l'))
    have i2 := sgi (zn_t (r1, r2, r3, r4) (zn_e (r1, r2, r3, r4) x y k' l'))
    rw [s2] at i1
    rw [t2] at i2
    have b4 := (zn_floor (n := sg * (x * r4 - y * r3)) (A := A) (i := k') (m := 2) hA (by omega)).1 (by omega) (by omega)
    have b5 := (zn_floor (n := sg * (r1 * y - r2 * x)) (A := A) (i := l') (m := 2) hA (by omega)).1 (by omega) (by omega)
    exact ⟨k', l', by omega, by omega, by omega, rfl⟩
  -- er lies in the class's box
  have in2 : zn_C c x y ((x * c.2.2.2 - y * c.2.2.1) / A - 1) ((c.1 * y - c.2.1 * x) / A - 1) 4 ((x * c.2.2.2 - y * c.2.2.1) / A - 1 + 4) ((c.1 * y - c.2.1 * x) / A - 1) er := by
    obtain ⟨k, l, h1, h2, h3, h4⟩ := id hr
    have s1 := sr k l
    have t1 := tr k l
    rw [← h4] at s1 t1
    have b1 := (zn_floor (n := sg * (x * r4 - y * r3)) (A := A) (i := k) (m := 3) hA (by omega)).2 (by omega) (by omega)
    have b2 := (zn_floor (n := sg * (r1 * y - r2 * x)) (A := A) (i := l) (m := 3) hA (by omega)).2 (by omega) (by omega)
    -- neighbours in the box are no closer
    have nb : ∀ k' l', (sg * (x * r4 - y * r3) / A - 3 ≤ k' ∧ k' < sg * (x * r4 - y * r3) / A - 3 + 8) → (sg * (r1 * y - r2 * x) / A - 3 ≤ l' ∧ l' < sg * (r1 * y - r2 * x) / A - 3 + 8) → zr_N er.1 er.2 ≤ zr_N (zn_e (r1, r2, r3, r4) x y k' l').1 (zn_e (r1, r2, r3, r4) x y k' l').2 := by
      intro k' l' q1 q2
      have := hrm _ ⟨k', l', q1, q2, by omega, rfl⟩
      unfold zt_lt at this
      omega
    have ex : er.1 = k * r1 + l * r3 - x := by rw [h4]; rfl
    have ey : er.2 = k * r2 + l * r4 - y := by rw [h4]; rfl
    have d1 : A * (er.1 * r1 + er.2 * r2) = (sg * zn_s (r1, r2, r3, r4) er) * zr_N r1 r2 + (sg * zn_t (r1, r2, r3, r4) er) * zr_p r1 r2 r3 r4 := by
      rw [← hD]; unfold zn_s zn_t zr_N zr_p; dsimp only; grind
    have d2 : A * (er.1 * r3 + er.2 * r4) = (sg * zn_s (r1, r2, r3, r4) er) * zr_p r1 r2 r3 r4 + (sg * zn_t (r1, r2, r3, r4) er) * zr_N r3 r4 := by
      rw [← hD]; unfold zn_s zn_t zr_N zr_p; dsimp only; grind
    have v1p : zr_N (zn_e (r1, r2, r3, r4) x y (k + 1) l).1 (zn_e (r1, r2, r3, r4) x y (k + 1) l).2 = zr_N er.1 er.2 + 2 * (er.1 * r1 + er.2 * r2) + zr_N r1 r2 := by
      rw [h4]; unfold zn_e zr_N; dsimp only; grind
    have v1m : zr_N (zn_e (r1, r2, r3, r4) x y (k - 1) l).1 (zn_e (r1, r2, r3, r4) x y (k - 1) l).2 = zr_N er.1 er.2 - 2 * (er.1 * r1 + er.2 * r2) + zr_N r1 r2 := by
      rw [h4]; unfold zn_e zr_N; dsimp only; grind
    have v2p : zr_N (zn_e (r1, r2, r3, r4) x y k (l + 1)).1 (zn_e (r1, r2, r3, r4) x y k (l + 1)).2 = zr_N er.1 er.2 + 2 * (er.1 * r3 + er.2 * r4) + zr_N r3 r4 := by
      rw [h4]; unfold zn_e zr_N; dsimp only; grind
    have v2m : zr_N (zn_e (r1, r2, r3, r4) x y k (l - 1)).1 (zn_e (r1, r2, r3, r4) x y k (l - 1)).2 = zr_N er.1 er.2 - 2 * (er.1 * r3 + er.2 * r4) + zr_N r3 r4 := by
      rw [h4]; unfold zn_e zr_N; dsimp only; grind
    have hN1 : 0 < zr_N r1 r2 := by omega
    have hAA : A * A = zr_N r1 r2 * zr_N r3 r4 - zr_p r1 r2 r3 r4 * zr_p r1 r2 r3 r4 := by
      have : A * A = (sg * sg) * ((r1 * r4 - r2 * r3) * (r1 * r4 - r2 * r3)) := by rw [← hD]; grind
      have hss : sg * sg = 1 := by rcases hsg with h | h <;> rw [h] <;> rfl
      rw [this, hss]
      unfold zr_N zr_p
      grind
    -- at the box's edges
    have hpabs : ∀ Z : Int, -(4 * A) ≤ Z → Z ≤ 4 * A → -(2 * (A * zr_N r1 r2)) ≤ Z * zr_p r1 r2 r3 r4 ∧ Z * zr_p r1 r2 r3 r4 ≤ 2 * (A * zr_N r1 r2) := by
      intro Z z1 z2
      have u1 := Int.mul_nonneg (show 0 ≤ 4 * A - Z by omega) (show 0 ≤ zr_N r1 r2 + 2 * zr_p r1 r2 r3 r4 by omega)
      have u2 := Int.mul_nonneg (show 0 ≤ 4 * A + Z by omega) (show 0 ≤ zr_N r1 r2 - 2 * zr_p r1 r2 r3 r4 by omega)
      have u3 := Int.mul_nonneg (show 0 ≤ 4 * A - Z by omega) (show 0 ≤ zr_N r1 r2 - 2 * zr_p r1 r2 r3 r4 by omega)
      have u4 := Int.mul_nonneg (show 0 ≤ 4 * A + Z by omega) (show 0 ≤ zr_N r1 r2 + 2 * zr_p r1 r2 r3 r4 by omega)
      generalize zr_N r1 r2 = N1 at *
      generalize zr_p r1 r2 r3 r4 = p at *
      have e1 : (4 * A - Z) * (N1 + 2 * p) + (4 * A + Z) * (N1 - 2 * p) = 8 * (A * N1) - 4 * (Z * p) := by grind
      have e2 : (4 * A - Z) * (N1 - 2 * p) + (4 * A + Z) * (N1 + 2 * p) = 8 * (A * N1) + 4 * (Z * p) := by grind
      omega
    have q1 := Int.mul_ediv_add_emod (sg * (x * r4 - y * r3)) A
    have q2 := Int.emod_nonneg (sg * (x * r4 - y * r3)) (show A ≠ 0 by omega)
    have q3 := Int.emod_lt_of_pos (sg * (x * r4 - y * r3)) hA
    have q4 := Int.mul_ediv_add_emod (sg * (r1 * y - r2 * x)) A
    have q5 := Int.emod_nonneg (sg * (r1 * y - r2 * x)) (show A ≠ 0 by omega)
    have q6 := Int.emod_lt_of_pos (sg * (r1 * y - r2 * x)) hA
    have AN1 : 0 < A * zr_N r1 r2 := Int.mul_pos hA hN1
    have AN12 := Int.mul_le_mul_of_nonneg_left hN (show 0 ≤ A by omega)
    have posm : ∀ {Z : Int}, 0 < A * Z → 0 < Z := by
      intro Z h
      rcases Int.lt_or_le 0 Z with h5 | h5
      · exact h5
      · have := Int.mul_nonneg (show 0 ≤ A by omega) (show 0 ≤ -Z by omega)
        rw [Int.mul_neg] at this
        omega
    have hpS := hpabs _ (show -(4 * A) ≤ sg * zn_s (r1, r2, r3, r4) er by omega) (by omega)
    have hpT := hpabs _ (show -(4 * A) ≤ sg * zn_t (r1, r2, r3, r4) er by omega) (by omega)
    generalize hS : sg * zn_s (r1, r2, r3, r4) er = S at *
    generalize hT : sg * zn_t (r1, r2, r3, r4) er = T at *
    generalize hqa : sg * (x * r4 - y * r3) / A = qa at *
    generalize hqb : sg * (r1 * y - r2 * x) / A = qb at *
    have mulge : ∀ {a b c : Int}, a ≤ b → 0 ≤ c → a * c ≤ b * c := fun h hc => Int.mul_le_mul_of_nonneg_right h hc
    have w1 : -zr_N r1 r2 ≤ 2 * (er.1 * r1 + er.2 * r2) := by
      by_cases hk : k + 1 < qa - 3 + 8
      · have := nb (k + 1) l (by omega) h2
        rw [v1p] at this
        omega
      · have hkk : k = qa + 4 := by omega
        have hS3 : 3 * A ≤ S := by
          rw [hkk, Int.add_mul, Int.mul_comm qa A] at s1
          omega
        have := mulge hS3 (show 0 ≤ zr_N r1 r2 by omega)
        have e3 : 3 * A * zr_N r1 r2 = 3 * (A * zr_N r1 r2) := by grind
        have := posm (Z := er.1 * r1 + er.2 * r2) (by omega)
        omega
    have w2 : 2 * (er.1 * r1 + er.2 * r2) ≤ zr_N r1 r2 := by
      by_cases hk : qa - 3 ≤ k - 1
      · have := nb (k - 1) l (by omega) h2
        rw [v1m] at this
        omega
      · have hkk : k = qa - 3 := by omega
        have hS3 : S ≤ -(3 * A) := by
          rw [hkk, Int.sub_mul, Int.mul_comm qa A] at s1
          omega
        have := mulge hS3 (show 0 ≤ zr_N r1 r2 by omega)
        have e3 : -(3 * A) * zr_N r1 r2 = -(3 * (A * zr_N r1 r2)) := by grind
        have := posm (Z := -(er.1 * r1 + er.2 * r2)) (by rw [Int.mul_neg]; omega)
        omega
    have w3 : -zr_N r3 r4 ≤ 2 * (er.1 * r3 + er.2 * r4) := by
      by_cases hk : l + 1 < qb - 3 + 8
      · have := nb k (l + 1) h1 (by omega)
        rw [v2p] at this
        omega
      · have hkk : l = qb + 4 := by omega
        have hS3 : 3 * A ≤ T := by
          rw [hkk, Int.add_mul, Int.mul_comm qb A] at t1
          omega
        have := mulge hS3 (show 0 ≤ zr_N r3 r4 by omega)
        have e3 : 3 * A * zr_N r3 r4 = 3 * (A * zr_N r3 r4) := by grind
        have := posm (Z := er.1 * r3 + er.2 * r4) (by omega)
        omega
    have w4 : 2 * (er.1 * r3 + er.2 * r4) ≤ zr_N r3 r4 := by
      by_cases hk : qb - 3 ≤ l - 1
      · have := nb k (l - 1) h1 (by omega)
        rw [v2m] at this
        omega
      · have hkk : l = qb - 3 := by omega
        have hS3 : T ≤ -(3 * A) := by
          rw [hkk, Int.sub_mul, Int.mul_comm qb A] at t1
          omega
        have := mulge hS3 (show 0 ≤ zr_N r3 r4 by omega)
        have e3 : -(3 * A) * zr_N r3 r4 = -(3 * (A * zr_N r3 r4)) := by grind
        have := posm (Z := -(er.1 * r3 + er.2 * r4)) (by rw [Int.mul_neg]; omega)
        omega
    have y1 := Int.mul_le_mul_of_nonneg_left w1 (show 0 ≤ A by omega)
    have y2 := Int.mul_le_mul_of_nonneg_left w2 (show 0 ≤ A by omega)
    have y3 := Int.mul_le_mul_of_nonneg_left w3 (show 0 ≤ A by omega)
    have y4 := Int.mul_le_mul_of_nonneg_left w4 (show 0 ≤ A by omega)
    have z1 : A * (2 * (er.1 * r1 + er.2 * r2)) = 2 * (S * zr_N r1 r2 + T * zr_p r1 r2 r3 r4) := by rw [← d1]; grind
    have z2 : A * (2 * (er.1 * r3 + er.2 * r4)) = 2 * (S * zr_p r1 r2 r3 r4 + T * zr_N r3 r4) := by rw [← d2]; grind
    rw [z1] at y1 y2
    rw [z2] at y3 y4
    rw [Int.mul_neg] at y1 y3
    obtain ⟨cS, cT⟩ := zn_close hN hN1 ⟨by omega, by omega⟩ hAA hA ⟨y2, y1⟩ ⟨y4, y3⟩
    have i1 := sgi (zn_s (r1, r2, r3, r4) er)
    have i2 := sgi (zn_t (r1, r2, r3, r4) er)
    rw [hS] at i1
    rw [hT] at i2
    have b3 := (f3 er M).mpr ⟨by omega, by omega⟩
    obtain ⟨k', l', h5⟩ := f2 k l
    rw [← h4] at h5
    have s2 := zn_s_e c x y k' l'
    have t2 := zn_t_e c x y k' l'
    rw [hd, ← h5] at s2 t2
    have b4 := (zn_floor (n := x * c.2.2.2 - y * c.2.2.1) (A := A) (i := k') (m := 1) hA (by omega)).1 (by omega) (by omega)
    have b5 := (zn_floor (n := c.1 * y - c.2.1 * x) (A := A) (i := l') (m := 1) hA (by omega)).1 (by omega) (by omega)
    exact ⟨k', l', by omega, by omega, by omega, h5⟩
  exact zt_tot (hrm ec in1) (hcm er in2)
end RZNX
