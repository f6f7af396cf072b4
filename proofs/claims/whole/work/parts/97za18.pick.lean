/-! part 97za18: simple polygons: Pick -/
section RZG18
/-- how many multiples: of m among g * m -/
theorem gh_mult (m g : Nat) (hm : 0 < m) : zp_sum (fun j => if m ∣ j then 1 else 0) (g * m) = g := by
  induction g with
  | zero => rw [Nat.zero_mul]; rfl
  | succ g ih =>
    rw [show (g + 1) * m = g * m + m by rw [Nat.succ_mul], gh_split, ih, gh_cong (g := fun i => if i = 0 then 1 else 0), gh_one hm]
    · push_cast; rfl
    · intro i hi
      refine gm_ifc ?_ _ _
      rw [Nat.dvd_add_right (Nat.dvd_mul_left m g)]
      constructor
      · intro h
        rcases Nat.eq_zero_or_pos i with h0 | h0
        · exact h0
        · have := Nat.le_of_dvd h0 h; omega
      · intro h; rw [h]; exact Nat.dvd_zero m
theorem gh_gcd {D : Nat} (hD : 0 < D) (dx : Int) : zp_sum (fun j => if (D : Int) ∣ dx * j then 1 else 0) D = (Int.gcd dx D : Int) := by
  have hg : 0 < Int.gcd dx D := Int.gcd_pos_of_ne_zero_right dx (by omega)
  have e1 : Int.gcd dx D = Nat.gcd dx.natAbs D := rfl
  obtain ⟨m, hm⟩ : Int.gcd dx D ∣ D := by rw [e1]; exact Nat.gcd_dvd_right _ _
  have hm0 : 0 < m := by
    rcases Nat.eq_zero_or_pos m with h | h
    · rw [h, Nat.mul_zero] at hm; omega
    · exact h
  have key : ∀ j : Nat, (D : Int) ∣ dx * j ↔ m ∣ j := by
    intro j
    rw [← Int.natAbs_dvd_natAbs, Int.natAbs_mul]
    have e2 : (D : Int).natAbs = D := rfl
    have e3 : ((j : Nat) : Int).natAbs = j := rfl
    rw [e2, e3]
    obtain ⟨k, hk⟩ : Int.gcd dx D ∣ dx.natAbs := by rw [e1]; exact Nat.gcd_dvd_left _ _
    have hco : Nat.Coprime m k := by
      have h := Nat.gcd_mul_left (Int.gcd dx D) k m
      rw [← hk, ← hm, ← e1] at h
      have : Nat.gcd k m = 1 := by
        have h2 : Int.gcd dx D * 1 = Int.gcd dx D * Nat.gcd k m := by rw [Nat.mul_one]; exact h
        exact (Nat.eq_of_mul_eq_mul_left hg h2).symm
      exact Nat.Coprime.symm this
    constructor
    · intro h
      have h2 : Int.gcd dx D * m ∣ Int.gcd dx D * (k * j) := by rw [← hm, ← Nat.mul_assoc, ← hk]; exact h
      exact hco.dvd_of_dvd_mul_left (Nat.dvd_of_mul_dvd_mul_left hg h2)
    · rintro ⟨t, rfl⟩
      rw [hk]
      have : Int.gcd dx D * k * (m * t) = D * (k * t) := by
        conv => rhs; rw [hm]
        simp only [Nat.mul_assoc, Nat.mul_left_comm]
      rw [this]
      exact Nat.dvd_mul_right _ _
  rw [gh_cong (g := fun j => if m ∣ j then 1 else 0) (fun j _ => gm_ifc (key j) _ _)]
  conv => lhs; arg 2; rw [hm]
  exact gh_mult m _ hm0
/-- the places of a row that are on a side -/
theorem gh_eq {K : Nat} {D c : Int} (hD : 0 < D) (h1 : -(K : Int) * D ≤ c) (h2 : c ≤ K * D) : zp_sum (fun i => if D * (-(K : Int) + i) = c then 1 else 0) (2 * K + 1) = if D ∣ c then 1 else 0 := by
  by_cases h : D ∣ c
  · rw [if_pos h]
    obtain ⟨t, rfl⟩ := h
    have b1 : -(K : Int) ≤ t := by
      have := gm_cle hD (a := -(K : Int)) (b := t)
      have e : -(K : Int) * D = D * -(K : Int) := by grind
      omega
    have b2 : t ≤ K := by
      have := gm_cle hD (a := t) (b := K)
      have e : (K : Int) * D = D * K := by grind
      omega
    rw [gh_cong (g := fun i => if i = (t + K).toNat then 1 else 0), gh_one (by omega)]
    intro i _
    refine gm_ifc ?_ _ _
    rw [gm_ceq hD]; omega
  · rw [if_neg h]
    exact gh_zero (fun i _ => if_neg (fun hc => h ⟨_, hc.symm⟩))
theorem gm_seg_up {K : Nat} {p q : Int × Int} (hp : gm_b K p) (hq : gm_b K q) (hpq : p.2 < q.2) : gm_bx K (fun z => if gm_ob p q z = true then 1 else 0) = (Int.gcd (q.1 - p.1) (q.2 - p.2) : Int) + 1 := by
  obtain ⟨p1, p2⟩ := p
  obtain ⟨q1, q2⟩ := q
  unfold gm_b at hp hq
  simp only at hp hq hpq ⊢
  have hD : 0 < q2 - p2 := by omega
  have hc : ∀ Y, p2 ≤ Y → Y ≤ q2 → -(K : Int) * (q2 - p2) ≤ (q1 - p1) * (Y - p2) + (q2 - p2) * p1 ∧ (q1 - p1) * (Y - p2) + (q2 - p2) * p1 ≤ K * (q2 - p2) := by
    intro Y h1 h2
    have a1 : 0 ≤ (q1 + K) * (Y - p2) := Int.mul_nonneg (by omega) (by omega)
    have a2 : 0 ≤ (p1 + K) * (q2 - Y) := Int.mul_nonneg (by omega) (by omega)
    have a3 : 0 ≤ (K - q1) * (Y - p2) := Int.mul_nonneg (by omega) (by omega)
    have a4 : 0 ≤ (K - p1) * (q2 - Y) := Int.mul_nonneg (by omega) (by omega)
    constructor <;> grind
  have hX : ∀ X Y : Int, gm_X (p1, p2) (q1, q2) (X, Y) = ((q1 - p1) * (Y - p2) + (q2 - p2) * p1) - (q2 - p2) * X := by intro X Y; unfold gm_X; grind
  have hon : ∀ X Y : Int, gm_ob (p1, p2) (q1, q2) (X, Y) = true ↔ ((p2 ≤ Y ∧ Y ≤ q2) ∧ (q2 - p2) * X = (q1 - p1) * (Y - p2) + (q2 - p2) * p1) := by
    intro X Y
    rw [gm_ob_iff]
    constructor
    · rintro ⟨g1, -, g3⟩
      rw [hX] at g1
      simp only at g3
      exact ⟨by omega, by omega⟩
    · rintro ⟨g1, g2⟩
      exact gm_on_of (l := q2 - Y) (m := Y - p2) (by omega) (by omega) (by omega) (by simp only; grind) (by simp only; grind)
  have h := gh_range (fun j => if (q2 - p2) ∣ (q1 - p1) * (-(K : Int) + (j : Int) - p2) + (q2 - p2) * p1 then 1 else 0) (a := (p2 + K).toNat) (b := (q2 + K).toNat + 1) (n := 2 * K + 1) (by omega) (by omega)
  rw [show (q2 + K).toNat + 1 - (p2 + K).toNat = (q2 - p2).toNat + 1 by omega] at h
  unfold gm_bx
  rw [gh_cong (g := fun j => if (p2 + K).toNat ≤ j ∧ j < (q2 + K).toNat + 1 then (if (q2 - p2) ∣ (q1 - p1) * (-(K : Int) + (j : Int) - p2) + (q2 - p2) * p1 then 1 else 0) else 0), h]
  · have e : ∀ j : Nat, ((q2 - p2) ∣ (q1 - p1) * (-(K : Int) + (((p2 + K).toNat + j : Nat) : Int) - p2) + (q2 - p2) * p1) ↔ ((((q2 - p2).toNat : Nat) : Int) ∣ (q1 - p1) * j) := by
      intro j
      rw [show (-(K : Int) + (((p2 + K).toNat + j : Nat) : Int) - p2) = (j : Int) by omega, show (((q2 - p2).toNat : Nat) : Int) = q2 - p2 by omega]
      exact Int.dvd_add_left (Int.dvd_mul_right _ _)
    rw [gh_cong (g := fun j => if (((q2 - p2).toNat : Nat) : Int) ∣ (q1 - p1) * j then 1 else 0) (fun j _ => gm_ifc (e j) _ _)]
    have e1 : zp_sum (fun j => if (((q2 - p2).toNat : Nat) : Int) ∣ (q1 - p1) * j then 1 else 0) ((q2 - p2).toNat + 1) = zp_sum (fun j => if (((q2 - p2).toNat : Nat) : Int) ∣ (q1 - p1) * j then 1 else 0) (q2 - p2).toNat + (if (((q2 - p2).toNat : Nat) : Int) ∣ (q1 - p1) * (((q2 - p2).toNat : Nat) : Int) then 1 else 0) := rfl
    rw [e1, gh_gcd (by omega), if_pos (Int.dvd_mul_left _ _), show (((q2 - p2).toNat : Nat) : Int) = q2 - p2 by omega]
  · intro j hj
    by_cases hr : (p2 + K).toNat ≤ j ∧ j < (q2 + K).toNat + 1
    · rw [if_pos hr]
      have hb := hc (-(K : Int) + j) (by omega) (by omega)
      rw [← gh_eq hD hb.1 hb.2]
      refine gh_cong (fun i _ => gm_ifc ?_ _ _)
      rw [hon]
      constructor
      · exact fun h => h.2
      · exact fun h => ⟨⟨by omega, by omega⟩, h⟩
    · rw [if_neg hr]
      refine gh_zero (fun i _ => if_neg (fun h => ?_))
      have := (hon _ _).mp h
      omega
theorem gm_seg_flat {K : Nat} {p1 q1 y : Int} (hp : gm_b K (p1, y)) (hq : gm_b K (q1, y)) (hpq : p1 ≤ q1) : gm_bx K (fun z => if gm_ob (p1, y) (q1, y) z = true then 1 else 0) = (q1 - p1) + 1 := by
  unfold gm_b at hp hq
  simp only at hp hq
  have hon : ∀ X Y : Int, gm_ob (p1, y) (q1, y) (X, Y) = true ↔ (Y = y ∧ p1 ≤ X ∧ X ≤ q1) := by
    intro X Y
    rw [gm_ob_iff]
    constructor
    · rintro ⟨-, g2, g3⟩
      simp only at g2 g3
      omega
    · rintro ⟨rfl, g1, g2⟩
      refine ⟨?_, ?_, ?_⟩
      · unfold gm_X; simp
      · simp only; omega
      · simp only; omega
  unfold gm_bx
  rw [gh_cong (g := fun j => if j = (y + K).toNat then q1 - p1 + 1 else 0), gh_one (by omega)]
  intro j hj
  by_cases h : j = (y + K).toNat
  · rw [if_pos h]
    have hr := gh_range (fun _ => 1) (a := (p1 + K).toNat) (b := (q1 + K).toNat + 1) (n := 2 * K + 1) (by omega) (by omega)
    rw [gh_cong (g := fun i => if (p1 + K).toNat ≤ i ∧ i < (q1 + K).toNat + 1 then 1 else 0), hr, gh_const]
    · omega
    · intro i _
      refine gm_ifc ?_ _ _
      rw [hon]; omega
  · rw [if_neg h]
    refine gh_zero (fun i _ => if_neg (fun hc => ?_))
    have := (hon _ _).mp hc
    omega
theorem gm_ob_swap (p q z : Int × Int) : gm_ob q p z = gm_ob p q z := by
  rw [Bool.eq_iff_iff, gm_ob_iff, gm_ob_iff]; exact gm_on_swap
/-- the places of a side -/
theorem gm_seg {K : Nat} {p q : Int × Int} (hp : gm_b K p) (hq : gm_b K q) : gm_bx K (fun z => if gm_ob p q z = true then 1 else 0) = (Int.gcd (q.1 - p.1) (q.2 - p.2) : Int) + 1 := by
  have hsw : gm_bx K (fun z => if gm_ob p q z = true then 1 else 0) = gm_bx K (fun z => if gm_ob q p z = true then 1 else 0) := gm_bx_cong (fun z => by rw [gm_ob_swap p q z])
  have hgs : Int.gcd (q.1 - p.1) (q.2 - p.2) = Int.gcd (p.1 - q.1) (p.2 - q.2) := by
    rw [show p.1 - q.1 = -(q.1 - p.1) by omega, show p.2 - q.2 = -(q.2 - p.2) by omega, Int.neg_gcd, Int.gcd_neg]
  rcases Int.lt_trichotomy p.2 q.2 with h | h | h
  · exact gm_seg_up hp hq h
  · obtain ⟨p1, y⟩ := p
    obtain ⟨q1, y'⟩ := q
    simp only at h
    subst h
    simp only at hgs ⊢
    rw [Int.sub_self, Int.gcd_zero_right]
    rcases Int.le_total p1 q1 with h1 | h1
    · rw [gm_seg_flat hp hq h1]; omega
    · rw [hsw, gm_seg_flat hq hp h1]; omega
  · rw [hsw, hgs]; exact gm_seg_up hq hp h
def gm_gc (e : (Int × Int) × (Int × Int)) : Int := (Int.gcd (e.2.1 - e.1.1) (e.2.2 - e.1.2) : Int)
theorem gm_gc_swap (p q : Int × Int) : gm_gc (q, p) = gm_gc (p, q) := by
  unfold gm_gc
  simp only
  rw [show p.1 - q.1 = -(q.1 - p.1) by omega, show p.2 - q.2 = -(q.2 - p.2) by omega, Int.neg_gcd, Int.gcd_neg]
theorem gm_val_rev (a e c z : Int × Int) : gm_val (gm_C [c, e, a]) z = gm_val (gm_C [a, e, c]) z := by
  have er : gm_rim (gm_C [c, e, a]) z = gm_rim (gm_C [a, e, c]) z := by
    show (gm_ob c e z || (gm_ob e a z || (gm_ob a c z || false))) = (gm_ob a e z || (gm_ob e c z || (gm_ob c a z || false)))
    rw [gm_ob_swap e c z, gm_ob_swap a e z, gm_ob_swap c a z]
    cases gm_ob e c z <;> cases gm_ob a e z <;> cases gm_ob c a z <;> rfl
  unfold gm_val
  rw [er, gm_w3, gm_w3, gm_cr_swap z e c, gm_cr_swap z a e, gm_cr_swap z c a]
  rw [gm_ifc (show (-gm_cr z e c + -gm_cr z a e + -gm_cr z c a = 0) ↔ (gm_cr z a e + gm_cr z e c + gm_cr z c a = 0) by omega)]
theorem gm_tri_ri {a e c : Int × Int} (hD : gm_X a e c ≠ 0) (z : Int × Int) : gm_ri (gm_C [a, e, c]) z + (if z = a then 1 else 0) + (if z = e then 1 else 0) + (if z = c then 1 else 0) = (if gm_ob a e z = true then 1 else 0) + (if gm_ob e c z = true then 1 else 0) + (if gm_ob c a z = true then 1 else 0) := by
  have hne := gm_D_ne hD
  have er : gm_rim (gm_C [a, e, c]) z = (gm_ob a e z || (gm_ob e c z || (gm_ob c a z || false))) := rfl
  have c1 : ¬ (z = a ∧ z = e) := fun h => hne.1 (h.1.symm.trans h.2)
  have xa : gm_ob a e z = true → gm_ob c a z = true → z = a := fun h1 h2 => gm_corner hD (gm_ob_iff.mp h1).1 (gm_ob_iff.mp h2).1
  have xe : gm_ob e c z = true → gm_ob a e z = true → z = e := fun h1 h2 => gm_corner (a := e) (e := c) (c := a) (by rw [gm_Xrot a e c]; exact hD) (gm_ob_iff.mp h1).1 (gm_ob_iff.mp h2).1
  have xc : gm_ob c a z = true → gm_ob e c z = true → z = c := fun h1 h2 => gm_corner (a := c) (e := a) (c := e) (by rw [← gm_Xrot c a e]; exact hD) (gm_ob_iff.mp h1).1 (gm_ob_iff.mp h2).1
  have ya : z = a → gm_ob a e z = true ∧ gm_ob c a z = true := by rintro rfl; exact ⟨gm_ob_iff.mpr (gm_on_l _ _), gm_ob_iff.mpr (gm_on_r _ _)⟩
  have ye : z = e → gm_ob e c z = true ∧ gm_ob a e z = true := by rintro rfl; exact ⟨gm_ob_iff.mpr (gm_on_l _ _), gm_ob_iff.mpr (gm_on_r _ _)⟩
  have yc : z = c → gm_ob c a z = true ∧ gm_ob e c z = true := by rintro rfl; exact ⟨gm_ob_iff.mpr (gm_on_l _ _), gm_ob_iff.mpr (gm_on_r _ _)⟩
  have n1 : z = a → z ≠ e := fun h h' => hne.1 (h.symm.trans h')
  have n2 : z = e → z ≠ c := fun h h' => hne.2.1 (h.symm.trans h')
  have n3 : z = a → z ≠ c := fun h h' => hne.2.2 (h.symm.trans h')
  unfold gm_ri
  rw [er]
  by_cases o1 : gm_ob a e z = true
  · by_cases o2 : gm_ob e c z = true
    · have hz := xe o2 o1
      have h1 : z ≠ a := fun h => n1 h hz
      have h2 : z ≠ c := n2 hz
      have o3 : ¬ gm_ob c a z = true := fun h => h1 (xa o1 h)
      rw [if_neg h1, if_pos hz, if_neg h2, if_pos o1, if_pos o2, if_neg o3, o1]; rfl
    · by_cases o3 : gm_ob c a z = true
      · have hz := xa o1 o3
        rw [if_pos hz, if_neg (n1 hz), if_neg (n3 hz), if_pos o1, if_neg o2, if_pos o3, o1]; rfl
      · rw [if_neg (fun h => o3 (ya h).2), if_neg (fun h => o2 (ye h).1), if_neg (fun h => o2 (yc h).2), if_pos o1, if_neg o2, if_neg o3, o1]; rfl
  · by_cases o2 : gm_ob e c z = true
    · by_cases o3 : gm_ob c a z = true
      · have hz := xc o3 o2
        rw [if_neg (fun h => n3 h hz), if_neg (fun h => n2 h hz), if_pos hz, if_neg o1, if_pos o2, if_pos o3, Bool.eq_false_iff.mpr o1, o2]; rfl
      · rw [if_neg (fun h => o1 (ya h).1), if_neg (fun h => o1 (ye h).2), if_neg (fun h => o3 (yc h).1), if_neg o1, if_pos o2, if_neg o3, Bool.eq_false_iff.mpr o1, o2]; rfl
    · by_cases o3 : gm_ob c a z = true
      · rw [if_neg (fun h => o1 (ya h).1), if_neg (fun h => o1 (ye h).2), if_neg (fun h => o2 (yc h).2), if_neg o1, if_neg o2, if_pos o3, Bool.eq_false_iff.mpr o1, Bool.eq_false_iff.mpr o2, o3]; rfl
      · rw [if_neg (fun h => o1 (ya h).1), if_neg (fun h => o1 (ye h).2), if_neg (fun h => o2 (yc h).2), if_neg o1, if_neg o2, if_neg o3, Bool.eq_false_iff.mpr o1, Bool.eq_false_iff.mpr o2, Bool.eq_false_iff.mpr o3]; rfl
/-- PICK, for three corners -/
theorem gm_pick3 {K : Nat} {a e c : Int × Int} (hD : gm_X a e c ≠ 0) (ha : gm_b K a) (he : gm_b K e) (hc : gm_b K c) : gm_bx K (fun z => gm_val (gm_C [a, e, c]) z) = ((gm_X a e c).natAbs : Int) + 2 ∧ gm_bx K (fun z => gm_ri (gm_C [a, e, c]) z) = gm_sm gm_gc (gm_C [a, e, c]) := by
  constructor
  · rcases Int.lt_or_le 0 (gm_X a e c) with h | h
    · rw [gm_tri_val h ha he hc]; omega
    · have h' : 0 < gm_X c e a := by rw [gm_Xm]; omega
      have := gm_tri_val h' hc he ha
      rw [gm_bx_cong (fun z => gm_val_rev a e c z), gm_Xm] at this
      rw [this]; omega
  · have h1 : gm_bx K (fun z => gm_ri (gm_C [a, e, c]) z + (if z = a then 1 else 0) + (if z = e then 1 else 0) + (if z = c then 1 else 0)) = gm_bx K (fun z => (if gm_ob a e z = true then 1 else 0) + (if gm_ob e c z = true then 1 else 0) + (if gm_ob c a z = true then 1 else 0)) := gm_bx_cong (fun z => gm_tri_ri hD z)
    rw [gm_bx_add, gm_bx_add, gm_bx_add, gm_bx_add, gm_bx_add, gm_bx_one ha, gm_bx_one he, gm_bx_one hc, gm_seg ha he, gm_seg he hc, gm_seg hc ha] at h1
    have h2 : gm_sm gm_gc (gm_C [a, e, c]) = (Int.gcd (e.1 - a.1) (e.2 - a.2) : Int) + ((Int.gcd (c.1 - e.1) (c.2 - e.2) : Int) + ((Int.gcd (a.1 - c.1) (a.2 - c.2) : Int) + 0)) := rfl
    rw [h2]
    show gm_bx K (gm_ri (gm_C [a, e, c])) = _
    omega
/-- PICK -/
theorem gm_pick (K m : Nat) : ∀ P : List (Int × Int), P.length ≤ m → 3 ≤ P.length → gm_ok (gm_C P) → (∀ k, k ∈ P → gm_b K k) → gm_bx K (fun z => gm_val (gm_C P) z) = ((gm_ar (gm_C P)).natAbs : Int) + 2 ∧ gm_bx K (fun z => gm_ri (gm_C P) z) = gm_sm gm_gc (gm_C P) := by
  induction m with
  | zero => intro P h1 h2; omega
  | succ m ih =>
    intro P h1 h3 hS hb
    by_cases hl : P.length = 3
    · obtain ⟨a, P, rfl⟩ : ∃ a P', P = a :: P' := by cases P with | nil => simp at hl | cons a P => exact ⟨a, P, rfl⟩
      obtain ⟨e, P, rfl⟩ : ∃ a P', P = a :: P' := by cases P with | nil => simp at hl | cons a P => exact ⟨a, P, rfl⟩
      obtain ⟨c, P, rfl⟩ : ∃ a P', P = a :: P' := by cases P with | nil => simp at hl | cons a P => exact ⟨a, P, rfl⟩
      have : P = [] := List.eq_nil_of_length_eq_zero (by simp only [List.length_cons] at hl; omega)
      subst this
      have har : gm_ar (gm_C [a, e, c]) = gm_X a e c := by
        show (a.1 * e.2 - a.2 * e.1) + ((e.1 * c.2 - e.2 * c.1) + ((c.1 * a.2 - c.2 * a.1) + 0)) = _
        unfold gm_X; grind
      rw [har]
      exact gm_pick3 (gm_tri3 hS).1 (hb a List.mem_cons_self) (hb e (List.mem_cons_of_mem _ List.mem_cons_self)) (hb c (List.mem_cons_of_mem _ (List.mem_cons_of_mem _ List.mem_cons_self)))
    · obtain ⟨hj, hen⟩ := gm_main _ P (Nat.le_refl _) h3 hS
      obtain ⟨p, hp⟩ : ∃ p, p ∈ P := by cases P with | nil => simp at h3 | cons a P => exact ⟨a, List.mem_cons_self⟩
      obtain ⟨q, hq⟩ := gm_C_from hp
      obtain ⟨a, e, c, R, ⟨p1, p2, p3, p4⟩, -⟩ := hen p q hq
      have hl2 := gm_len p1
      have hR : R ≠ [] := by intro h; rw [h] at hl2; simp only [List.length_cons, List.length_nil] at hl2; omega
      have hS2 := gm_ok_perm p1 hS
      have okQ := gm_cut hS2 hR p2 p3
      have hlR : 1 ≤ R.length := by
        cases R with
        | nil => exact absurd rfl hR
        | cons r R => simp only [List.length_cons]; omega
      have hEJ := (gm_EJ hS2 hR p2 p3 p4 (fun N hN => (gm_main _ _ (Nat.le_refl _) (by rw [List.length_map]; simp only [List.length_cons]; omega) (gm_ok_c hN okQ)).1)).2
      have hsg := gm_sign hS2 hR p2 p3 p4 (fun N hN => (gm_main _ _ (Nat.le_refl _) (by rw [List.length_map]; simp only [List.length_cons]; omega) (gm_ok_c hN okQ)).1)
      have hb2 : ∀ k, k ∈ a :: e :: c :: R → gm_b K k := fun k hk => hb k ((gm_mem p1 k).mpr hk)
      have ba := hb2 a List.mem_cons_self
      have be := hb2 e (List.mem_cons_of_mem _ List.mem_cons_self)
      have bc := hb2 c (List.mem_cons_of_mem _ (List.mem_cons_of_mem _ List.mem_cons_self))
      obtain ⟨i1, i2⟩ := ih (a :: c :: R) (by simp only [List.length_cons] at hl2 ⊢; omega) (by simp only [List.length_cons]; omega) okQ (fun k hk => by
        rcases List.mem_cons.mp hk with h | h
        · rw [h]; exact ba
        · exact hb2 k (List.mem_cons_of_mem _ (List.mem_cons_of_mem _ h)))
      obtain ⟨t1, t2⟩ := gm_pick3 p2 ba be bc
      have hJQ := (gm_main _ _ (Nat.le_refl _) (show 3 ≤ (a :: c :: R).length by simp only [List.length_cons]; omega) okQ).1
      have s1 : gm_bx K (fun z => gm_val (gm_C (a :: e :: c :: R)) z + (if z = a then 1 else 0) + (if z = c then 1 else 0)) = gm_bx K (fun z => gm_val (gm_C [a, e, c]) z + gm_val (gm_C (a :: c :: R)) z) := gm_bx_cong (fun z => (gm_parts hS2 hR p2 p3 p4 z).1)
      have s2 : gm_bx K (fun z => gm_ri (gm_C (a :: e :: c :: R)) z + 2 * (if gm_ob a c z = true then 1 else 0)) = gm_bx K (fun z => gm_ri (gm_C [a, e, c]) z + gm_ri (gm_C (a :: c :: R)) z + (if z = a then 1 else 0) + (if z = c then 1 else 0)) := gm_bx_cong (fun z => (gm_parts hS2 hR p2 p3 p4 z).2)
      rw [gm_bx_add, gm_bx_add, gm_bx_add, gm_bx_one ba, gm_bx_one bc, t1, i1] at s1
      rw [gm_bx_add, gm_bx_add, gm_bx_add, gm_bx_add, gm_bx_mul, gm_seg ba bc, gm_bx_one ba, gm_bx_one bc, t2, i2] at s2
      constructor
      · rw [gm_bx_cong (fun z => gm_val_perm p1 z), gm_ar_perm p1]
        have ec := gm_ar_cut a e c R
        have hA := hJQ.1
        rw [ec]
        clear ec
        generalize gm_ar (gm_C (a :: c :: R)) = A at *
        generalize gm_X a e c = D at *
        have hn : ((A + D).natAbs : Int) = (A.natAbs : Int) + (D.natAbs : Int) := by
          by_cases g1 : 0 < A
          · by_cases g2 : 0 < D
            · omega
            · rw [gm_u_pos g1, gm_u_neg g2] at hsg; omega
          · by_cases g2 : 0 < D
            · rw [gm_u_neg g1, gm_u_pos g2] at hsg; omega
            · omega
        omega
      · rw [gm_bx_cong (fun z => gm_ri_perm p1 z), gm_sm_perm _ p1]
        have g1 : gm_sm gm_gc (gm_C (a :: e :: c :: R)) = gm_gc (a, e) + (gm_gc (e, c) + gm_sm gm_gc (gm_E c (R ++ [a]))) := rfl
        have g2 : gm_sm gm_gc (gm_C [a, e, c]) = gm_gc (a, e) + (gm_gc (e, c) + (gm_gc (c, a) + 0)) := rfl
        have g3 : gm_sm gm_gc (gm_C (a :: c :: R)) = gm_gc (a, c) + gm_sm gm_gc (gm_E c (R ++ [a])) := rfl
        have g4 : gm_gc (a, c) = (Int.gcd (c.1 - a.1) (c.2 - a.2) : Int) := rfl
        have g5 := gm_gc_swap a c
        omega
end RZG18
