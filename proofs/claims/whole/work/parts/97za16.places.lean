/-! part 97za16: simple polygons: all places -/
section RZG16
theorem gh_cong {f g : Nat → Int} : ∀ {n : Nat}, (∀ i, i < n → f i = g i) → zp_sum f n = zp_sum g n := by
  intro n
  induction n with
  | zero => intro _; rfl
  | succ n ih =>
    intro h
    unfold zp_sum
    rw [ih (fun i hi => h i (Nat.lt_succ_of_lt hi)), h n (Nat.lt_succ_self n)]
theorem gh_add (f g : Nat → Int) (n : Nat) : zp_sum (fun i => f i + g i) n = zp_sum f n + zp_sum g n := by
  induction n with
  | zero => rfl
  | succ n ih => unfold zp_sum; rw [ih]; omega
theorem gh_mul (k : Int) (f : Nat → Int) (n : Nat) : zp_sum (fun i => k * f i) n = k * zp_sum f n := by
  induction n with
  | zero => show (0 : Int) = k * 0; omega
  | succ n ih => unfold zp_sum; rw [ih, Int.mul_add]
theorem gh_const (k : Int) (n : Nat) : zp_sum (fun _ => k) n = n * k := by
  induction n with
  | zero => show (0 : Int) = (0 : Nat) * k; simp
  | succ n ih => unfold zp_sum; rw [ih]; push_cast; grind
theorem gh_zero {f : Nat → Int} {n : Nat} (h : ∀ i, i < n → f i = 0) : zp_sum f n = 0 := by
  rw [gh_cong (g := fun _ => 0) h, gh_const]; simp
theorem gh_swap (f : Nat → Nat → Int) (n m : Nat) : zp_sum (fun i => zp_sum (fun j => f i j) m) n = zp_sum (fun j => zp_sum (fun i => f i j) n) m := by
  induction n with
  | zero => exact (gh_zero (fun _ _ => rfl)).symm
  | succ n ih =>
    show zp_sum (fun i => zp_sum (fun j => f i j) m) n + zp_sum (fun j => f n j) m = _
    rw [ih, ← gh_add]
    rfl
theorem gh_split (f : Nat → Int) (a b : Nat) : zp_sum f (a + b) = zp_sum f a + zp_sum (fun i => f (a + i)) b := by
  induction b with
  | zero => show zp_sum f a = zp_sum f a + 0; omega
  | succ b ih => show zp_sum f (a + b) + f (a + b) = zp_sum f a + (zp_sum (fun i => f (a + i)) b + f (a + b)); omega
theorem gh_rev (f : Nat → Int) (n : Nat) : zp_sum f n = zp_sum (fun i => f (n - 1 - i)) n := by
  induction n with
  | zero => rfl
  | succ n ih =>
    have h := gh_split (fun i => f (n + 1 - 1 - i)) 1 n
    rw [show 1 + n = n + 1 by omega] at h
    rw [h]
    show zp_sum f n + f n = (0 + f (n + 1 - 1 - 0)) + _
    rw [ih, gh_cong (f := fun i => f (n + 1 - 1 - (1 + i))) (g := fun i => f (n - 1 - i)) (fun i _ => by rw [show n + 1 - 1 - (1 + i) = n - 1 - i by omega])]
    rw [show n + 1 - 1 - 0 = n by omega]
    omega
theorem gh_range (f : Nat → Int) {a b n : Nat} (hab : a ≤ b) (hbn : b ≤ n) : zp_sum (fun j => if a ≤ j ∧ j < b then f j else 0) n = zp_sum (fun j => f (a + j)) (b - a) := by
  obtain ⟨c, rfl⟩ : ∃ c, n = a + ((b - a) + c) := ⟨n - b, by omega⟩
  rw [gh_split, gh_split]
  rw [gh_zero (f := fun j => if a ≤ j ∧ j < b then f j else 0) (fun i hi => if_neg (by omega))]
  rw [gh_zero (f := fun i => if a ≤ a + (b - a + i) ∧ a + (b - a + i) < b then f (a + (b - a + i)) else 0) (fun i hi => if_neg (by omega))]
  rw [gh_cong (f := fun i => if a ≤ a + i ∧ a + i < b then f (a + i) else 0) (g := fun j => f (a + j)) (fun i hi => if_pos (by omega))]
  omega
theorem gh_one {k n : Nat} (h : k < n) (v : Int) : zp_sum (fun i => if i = k then v else 0) n = v := by
  have := gh_range (fun _ => v) (a := k) (b := k + 1) (n := n) (by omega) (by omega)
  rw [show k + 1 - k = 1 by omega] at this
  rw [gh_cong (g := fun j => if k ≤ j ∧ j < k + 1 then v else 0) (fun i _ => gm_ifc (by omega) _ _), this]
  show 0 + v = v
  omega
/-- how many are below -/
theorem gh_cnt (t : Int) (n : Nat) (h0 : 0 ≤ t) (hn : t ≤ n) : zp_sum (fun i => if (i : Int) < t then 1 else 0) n = t := by
  have := gh_range (fun _ => 1) (a := 0) (b := t.toNat) (n := n) (by omega) (by omega)
  rw [gh_cong (g := fun j => if 0 ≤ j ∧ j < t.toNat then 1 else 0) (fun i _ => gm_ifc (by omega) _ _), this, gh_const]
  omega
/-- a sum over all places of a square -/
def gm_bx (K : Nat) (f : Int × Int → Int) : Int := zp_sum (fun j => zp_sum (fun i => f (-(K : Int) + i, -(K : Int) + j)) (2 * K + 1)) (2 * K + 1)
theorem gm_bx_cong {K : Nat} {f g : Int × Int → Int} (h : ∀ z, f z = g z) : gm_bx K f = gm_bx K g :=
  gh_cong (fun _ _ => gh_cong (fun _ _ => h _))
theorem gm_bx_add (K : Nat) (f g : Int × Int → Int) : gm_bx K (fun z => f z + g z) = gm_bx K f + gm_bx K g := by
  unfold gm_bx
  rw [← gh_add]
  exact gh_cong (fun _ _ => gh_add _ _ _)
theorem gm_bx_mul (K : Nat) (k : Int) (f : Int × Int → Int) : gm_bx K (fun z => k * f z) = k * gm_bx K f := by
  unfold gm_bx
  rw [← gh_mul]
  exact gh_cong (fun _ _ => gh_mul _ _ _)
theorem gm_bx_sm (K : Nat) (F : Int × Int → (Int × Int) × (Int × Int) → Int) (E : List ((Int × Int) × (Int × Int))) : gm_bx K (fun z => gm_sm (F z) E) = gm_sm (fun e => gm_bx K (fun z => F z e)) E := by
  induction E with
  | nil => exact gh_zero (fun _ _ => gh_zero (fun _ _ => rfl))
  | cons e E ih =>
    show gm_bx K (fun z => F z e + gm_sm (F z) E) = _
    rw [gm_bx_add, ih]; rfl
def gm_b (K : Nat) (p : Int × Int) : Prop := (-(K : Int) ≤ p.1 ∧ p.1 ≤ K) ∧ (-(K : Int) ≤ p.2 ∧ p.2 ≤ K)
/-- one place counts once -/
theorem gm_bx_one {K : Nat} {a : Int × Int} (ha : gm_b K a) (v : Int) : gm_bx K (fun z => if z = a then v else 0) = v := by
  obtain ⟨a1, a2⟩ := a
  unfold gm_b at ha
  simp only at ha
  unfold gm_bx
  rw [gh_cong (g := fun j => if j = (a2 + K).toNat then v else 0)]
  · exact gh_one (by omega) v
  · intro j hj
    by_cases h : j = (a2 + K).toNat
    · simp only
      rw [if_pos h, gh_cong (g := fun i => if i = (a1 + K).toNat then v else 0)]
      · exact gh_one (by omega) v
      · intro i hi
        refine gm_ifc ?_ _ _
        rw [Prod.mk.injEq]; omega
    · simp only
      rw [if_neg h]
      refine gh_zero (fun i hi => if_neg ?_)
      rw [Prod.mk.injEq]; omega
def gm_n (p : Int × Int) : Int × Int := (-p.1, -p.2)
theorem gm_nX (p q r : Int × Int) : gm_X (gm_n p) (gm_n q) (gm_n r) = gm_X p q r := by unfold gm_X gm_n; simp only; grind
/-- a row of a side -/
theorem gh_lt {K : Nat} {D c : Int} (hD : 0 < D) (h1 : -(K : Int) * D ≤ c) (h2 : c ≤ K * D) : zp_sum (fun i => if D * (-(K : Int) + i) < c then 1 else 0) (2 * K + 1) = -((-c) / D) + K := by
  have key : ∀ X : Int, D * X < c ↔ X < -((-c) / D) := by
    intro X
    have := Int.ediv_lt_iff_lt_mul hD (a := -c) (b := -X)
    have e : -X * D = -(D * X) := by grind
    rw [e] at this
    omega
  have hq1 : -(K : Int) ≤ -((-c) / D) := by
    have : (-c) / D ≤ K := by
      have := Int.ediv_le_of_le_mul hD (a := -c) (b := K) (by have e : -(K : Int) * D = -(K * D) := by grind
                                                              omega)
      exact this
    omega
  have hq2 : -((-c) / D) ≤ K := by
    have : -(K : Int) ≤ (-c) / D := by
      refine Int.le_ediv_of_mul_le hD ?_
      have e : -(K : Int) * D = -(K * D) := by grind
      omega
    omega
  rw [gh_cong (g := fun i => if (i : Int) < -((-c) / D) + K then 1 else 0)]
  · exact gh_cnt _ _ (by omega) (by push_cast; omega)
  · intro i _
    refine gm_ifc ?_ _ _
    rw [key]; omega
theorem gh_gt {K : Nat} {D c : Int} (hD : 0 < D) (h1 : -(K : Int) * D ≤ c) (h2 : c ≤ K * D) : zp_sum (fun i => if c < D * (-(K : Int) + i) then -1 else 0) (2 * K + 1) = c / D - K := by
  have key : ∀ X : Int, c < D * X ↔ ¬ X < c / D + 1 := by
    intro X
    have := Int.ediv_lt_iff_lt_mul hD (a := c) (b := X)
    rw [Int.mul_comm] at this
    omega
  have hq1 : -(K : Int) ≤ c / D := Int.le_ediv_of_mul_le hD h1
  have hq2 : c / D ≤ K := Int.ediv_le_of_le_mul hD (by omega)
  have h := gh_cnt (c / D + 1 + K) (2 * K + 1) (by omega) (by push_cast; omega)
  have e : zp_sum (fun i => (if c < D * (-(K : Int) + i) then -1 else 0) + 1) (2 * K + 1) = c / D + 1 + K := by
    rw [← h]
    refine gh_cong (fun i _ => ?_)
    by_cases hc : c < D * (-(K : Int) + i)
    · rw [if_pos hc, if_neg (by rw [key] at hc; omega)]; rfl
    · rw [if_neg hc, if_pos (by rw [key] at hc; omega)]; rfl
  rw [gh_add, gh_const] at e
  push_cast at e
  omega
def gm_ph (z : Int × Int) (e : (Int × Int) × (Int × Int)) : Int := gm_cr z e.1 e.2 + gm_cr (gm_n z) (gm_n e.1) (gm_n e.2)
theorem gm_ph_swap (z p q : Int × Int) : gm_ph z (q, p) = - gm_ph z (p, q) := by
  unfold gm_ph
  simp only
  rw [gm_cr_swap z p q, gm_cr_swap (gm_n z) (gm_n p) (gm_n q)]
  omega
theorem gm_edge_up {K : Nat} {p q : Int × Int} (hp : gm_b K p) (hq : gm_b K q) (hpq : p.2 < q.2) : gm_bx K (fun z => gm_ph z (p, q)) = (q.2 - p.2) * (p.1 + q.1) := by
  obtain ⟨p1, p2⟩ := p
  obtain ⟨q1, q2⟩ := q
  unfold gm_b at hp hq
  simp only at hp hq hpq ⊢
  have hD : 0 < q2 - p2 := by omega
  have hc : ∀ Y, p2 ≤ Y → Y ≤ q2 → -(K : Int) * (q2 - p2) ≤ (q1 - p1) * (Y - p2) + (q2 - p2) * p1 ∧ (q1 - p1) * (Y - p2) + (q2 - p2) * p1 ≤ K * (q2 - p2) := by
    intro Y h1 h2
    have a1 : 0 ≤ (q1 + K) * (Y - p2) := Int.mul_nonneg (by omega) (by omega)
    have a2 : 0 ≤ (p1 + K) * (q2 - Y) := Int.mul_nonneg (by omega) (by omega)
    have a3 : 0 ≤ (K - q1) * (Y - p2) := Int.mul_nonneg (by omega) (by omega)
    have a4 : 0 ≤ (K - p1) * (q2 - Y) := Int.mul_nonneg (by omega) (by omega)
    constructor <;> grind
  have hX : ∀ X Y : Int, gm_X (p1, p2) (q1, q2) (X, Y) = ((q1 - p1) * (Y - p2) + (q2 - p2) * p1) - (q2 - p2) * X := by intro X Y; unfold gm_X; grind
  have r1 : gm_bx K (fun z => gm_cr z (p1, p2) (q1, q2)) = zp_sum (fun j => -((-((q1 - p1) * (j : Int) + (q2 - p2) * p1)) / (q2 - p2)) + K) (q2 - p2).toNat := by
    have h := gh_range (fun j => -((-((q1 - p1) * (-(K : Int) + (j : Int) - p2) + (q2 - p2) * p1)) / (q2 - p2)) + K) (a := (p2 + K).toNat) (b := (q2 + K).toNat) (n := 2 * K + 1) (by omega) (by omega)
    rw [show (q2 + K).toNat - (p2 + K).toNat = (q2 - p2).toNat by omega] at h
    rw [gh_cong (f := fun j => -((-((q1 - p1) * (j : Int) + (q2 - p2) * p1)) / (q2 - p2)) + (K : Int)) (g := fun j => -((-((q1 - p1) * (-(K : Int) + (((p2 + K).toNat + j : Nat) : Int) - p2) + (q2 - p2) * p1)) / (q2 - p2)) + (K : Int)) (fun j _ => by
      rw [show (-(K : Int) + (((p2 + K).toNat + j : Nat) : Int) - p2) = (j : Int) by omega]), ← h]
    unfold gm_bx
    refine gh_cong (fun j hj => ?_)
    by_cases hr : (p2 + K).toNat ≤ j ∧ j < (q2 + K).toNat
    · rw [if_pos hr]
      have hb := hc (-(K : Int) + j) (by omega) (by omega)
      rw [← gh_lt hD hb.1 hb.2]
      refine gh_cong (fun i _ => ?_)
      unfold gm_cr
      simp only
      rw [hX]
      by_cases hs : (q2 - p2) * (-(K : Int) + i) < (q1 - p1) * (-(K : Int) + j - p2) + (q2 - p2) * p1
      · rw [if_pos hs]
        exact gm_k1 ⟨by omega, by omega, by omega⟩
      · rw [if_neg hs]
        exact gm_k0 (by omega) (by omega)
    · rw [if_neg hr]
      refine gh_zero (fun i _ => ?_)
      unfold gm_cr
      exact gm_k0 (by simp only; omega) (by simp only; omega)
  have r2 : gm_bx K (fun z => gm_cr (gm_n z) (gm_n (p1, p2)) (gm_n (q1, q2))) = zp_sum (fun j => ((q1 - p1) * (q2 - p2 - (j : Int)) + (q2 - p2) * p1) / (q2 - p2) - K) (q2 - p2).toNat := by
    have h := gh_range (fun j => ((q1 - p1) * (-(K : Int) + (j : Int) - p2) + (q2 - p2) * p1) / (q2 - p2) - K) (a := (p2 + K).toNat + 1) (b := (q2 + K).toNat + 1) (n := 2 * K + 1) (by omega) (by omega)
    rw [show (q2 + K).toNat + 1 - ((p2 + K).toNat + 1) = (q2 - p2).toNat by omega] at h
    have h := h.trans (gh_rev _ _)
    rw [gh_cong (f := fun j => ((q1 - p1) * (q2 - p2 - (j : Int)) + (q2 - p2) * p1) / (q2 - p2) - (K : Int)) (g := fun i => ((q1 - p1) * (-(K : Int) + (((p2 + K).toNat + 1 + ((q2 - p2).toNat - 1 - i) : Nat) : Int) - p2) + (q2 - p2) * p1) / (q2 - p2) - (K : Int)) (fun j hj => by
      rw [show (-(K : Int) + (((p2 + K).toNat + 1 + ((q2 - p2).toNat - 1 - j) : Nat) : Int) - p2) = q2 - p2 - (j : Int) by omega]), ← h]
    unfold gm_bx
    refine gh_cong (fun j hj => ?_)
    by_cases hr : (p2 + K).toNat + 1 ≤ j ∧ j < (q2 + K).toNat + 1
    · rw [if_pos hr]
      have hb := hc (-(K : Int) + j) (by omega) (by omega)
      rw [← gh_gt hD hb.1 hb.2]
      refine gh_cong (fun i _ => ?_)
      unfold gm_cr
      show gm_k ((gm_n (p1, p2)).2 - (gm_n (-(K : Int) + i, -(K : Int) + j)).2) ((gm_n (q1, q2)).2 - (gm_n (-(K : Int) + i, -(K : Int) + j)).2) (gm_X (gm_n (p1, p2)) (gm_n (q1, q2)) (gm_n (-(K : Int) + i, -(K : Int) + j))) = _
      rw [gm_nX, hX]
      simp only [gm_n]
      by_cases hs : (q1 - p1) * (-(K : Int) + j - p2) + (q2 - p2) * p1 < (q2 - p2) * (-(K : Int) + i)
      · rw [if_pos hs]
        exact gm_k2 ⟨by omega, by omega, by omega⟩
      · rw [if_neg hs]
        exact gm_k0 (by omega) (by omega)
    · rw [if_neg hr]
      refine gh_zero (fun i _ => ?_)
      unfold gm_cr
      exact gm_k0 (by simp only [gm_n]; omega) (by simp only [gm_n]; omega)
  have r3 : gm_bx K (fun z => gm_ph z ((p1, p2), (q1, q2))) = gm_bx K (fun z => gm_cr z (p1, p2) (q1, q2)) + gm_bx K (fun z => gm_cr (gm_n z) (gm_n (p1, p2)) (gm_n (q1, q2))) := gm_bx_add K _ _
  rw [r3, r1, r2, ← gh_add, gh_cong (g := fun _ => p1 + q1), gh_const]
  · rw [show (((q2 - p2).toNat : Nat) : Int) = q2 - p2 by omega]
  · intro j _
    have e : (q1 - p1) * (q2 - p2 - (j : Int)) + (q2 - p2) * p1 = -((q1 - p1) * (j : Int) + (q2 - p2) * p1) + (p1 + q1) * (q2 - p2) := by grind
    rw [e, Int.add_mul_ediv_right _ _ (by omega)]
    omega
theorem gm_edge {K : Nat} {p q : Int × Int} (hp : gm_b K p) (hq : gm_b K q) : gm_bx K (fun z => gm_ph z (p, q)) = (q.2 - p.2) * (p.1 + q.1) := by
  rcases Int.lt_trichotomy p.2 q.2 with h | h | h
  · exact gm_edge_up hp hq h
  · rw [show q.2 - p.2 = 0 by omega, Int.zero_mul]
    have e0 : ∀ z, gm_ph z (p, q) = 0 := by
      intro z
      unfold gm_ph gm_cr
      simp only [gm_n]
      rw [gm_k0 (by omega) (by omega), gm_k0 (by omega) (by omega)]
      rfl
    exact gh_zero (fun _ _ => gh_zero (fun _ _ => e0 _))
  · have := gm_edge_up hq hp h
    rw [gm_bx_cong (g := fun z => -1 * gm_ph z (q, p)) (fun z => by rw [gm_ph_swap z q p]; omega), gm_bx_mul, this]
    grind
/-- all places together tell the area -/
theorem gm_area_sum {K : Nat} {P : List (Int × Int)} (hP : ∀ k, k ∈ P → gm_b K k) : gm_bx K (fun z => gm_sm (gm_ph z) (gm_C P)) = gm_ar (gm_C P) := by
  rw [gm_bx_sm]
  have h := gm_C_tel (fun p => p.1 * p.2) P
  have e : gm_sm (fun e => gm_bx K (fun z => gm_ph z e)) (gm_C P) = gm_sm (fun e => (e.1.1 * e.2.2 - e.1.2 * e.2.1) + (e.2.1 * e.2.2 - e.1.1 * e.1.2)) (gm_C P) := by
    refine gm_sm_cong (fun f hf => ?_)
    have m1 : f.1 ∈ P := by
      have := List.mem_map_of_mem (f := Prod.fst) hf
      rw [gm_C_fst] at this; exact this
    rw [show f = (f.1, f.2) from rfl, gm_edge (hP _ m1) (hP _ (gm_C_snd hf))]
    simp only
    grind
  rw [e, gm_sm_add, h]
  unfold gm_ar
  omega
end RZG16
