/-! part 97za06: simple polygons: triangle -/
section RZG06
/-- in a triangle or on it -/
def gm_in (a e c z : Int × Int) : Prop := (0 ≤ gm_X a e z ∧ 0 ≤ gm_X e c z ∧ 0 ≤ gm_X c a z) ∨ (gm_X a e z ≤ 0 ∧ gm_X e c z ≤ 0 ∧ gm_X c a z ≤ 0)
theorem gm_in_swap {a e c z : Int × Int} : gm_in c e a z ↔ gm_in a e c z := by
  unfold gm_in
  rw [gm_Xswap e c z, gm_Xswap a e z, gm_Xswap c a z]
  omega
theorem gm_in_pos {a e c z : Int × Int} (hD : 0 < gm_X a e c) : gm_in a e c z ↔ (0 ≤ gm_X a e z ∧ 0 ≤ gm_X e c z ∧ 0 ≤ gm_X c a z) := by
  have := gm_X3 a e c z
  unfold gm_in
  omega
theorem gm_PL {a e c p q : Int × Int} {l m h : Int} (hD : 0 < gm_X a e c) (hh : -1 ≤ h) (hl : 0 ≤ l) (hm : 0 ≤ m) (h0 : 0 < l + m) (h1 : 0 ≤ l * gm_X a e p + m * gm_X a e q) (h2 : 0 ≤ l * gm_X e c p + m * gm_X e c q) (h3 : 0 ≤ l * gm_X c a p + m * gm_X c a q) (h3' : h * (l + m) < l * gm_X c a p + m * gm_X c a q)
    (hp : 0 ≤ gm_X a e p → 0 ≤ gm_X e c p → 0 ≤ gm_X c a p → gm_X c a p ≤ h) (hq : 0 ≤ gm_X a e q → 0 ≤ gm_X e c q → 0 ≤ gm_X c a q → gm_X c a q ≤ h) :
    (((gm_X a e p < 0 ∧ 0 < gm_X a e q) ∨ (gm_X a e q < 0 ∧ 0 < gm_X a e p)) ∧ gm_hit p q a e) ∨ (((gm_X e c p < 0 ∧ 0 < gm_X e c q) ∨ (gm_X e c q < 0 ∧ 0 < gm_X e c p)) ∧ gm_hit p q e c) := by
  have nn : ∀ {t x : Int}, 0 < t → 0 ≤ t * x → 0 ≤ x := fun ht h => by
    have := gm_sgt ht ‹Int›
    omega
  have case1 : ∀ {p q : Int × Int} {l m : Int}, 0 ≤ l → 0 ≤ m → 0 < l + m → 0 ≤ l * gm_X a e p + m * gm_X a e q → 0 ≤ l * gm_X e c p + m * gm_X e c q → 0 ≤ l * gm_X c a p + m * gm_X c a q → h * (l + m) < l * gm_X c a p + m * gm_X c a q → (0 ≤ gm_X a e p → 0 ≤ gm_X e c p → 0 ≤ gm_X c a p → gm_X c a p ≤ h) → (0 ≤ gm_X a e q → 0 ≤ gm_X e c q → 0 ≤ gm_X c a q → gm_X c a q ≤ h) → h < gm_X c a p → ((gm_X a e p < 0 ∧ 0 < gm_X a e q) ∧ gm_hit p q a e) ∨ ((gm_X e c p < 0 ∧ 0 < gm_X e c q) ∧ gm_hit p q e c) := by
    intro p q l m hl hm h0 h1 h2 h3 h3' hp hq hlt
    rcases Int.lt_or_le 0 l with hl1 | hl1
    · rcases Int.lt_or_le 0 m with hm1 | hm1
      · have hv : gm_X a e p < 0 ∨ gm_X e c p < 0 := by
          refine Classical.byContradiction (fun hc => ?_)
          have := hp (by omega) (by omega) (by omega)
          omega
        rcases gm_EX hD hl1 hm1 h1 h2 h3 (by omega) hv with ⟨g1, g2, g3⟩ | ⟨g1, g2, g3⟩
        · exact Or.inl ⟨⟨g1, g2⟩, g3⟩
        · exact Or.inr ⟨⟨g1, g2⟩, g3⟩
      · exfalso
        have hm0 : m = 0 := by omega
        subst hm0
        rw [Int.zero_mul, Int.add_zero] at h1 h2 h3
        have s1 := gm_sgt hl1 (gm_X a e p)
        have s2 := gm_sgt hl1 (gm_X e c p)
        have s3 := gm_sgt hl1 (gm_X c a p)
        have := hp (by omega) (by omega) (by omega)
        omega
    · exfalso
      have hl0 : l = 0 := by omega
      subst hl0
      rw [Int.zero_mul, Int.zero_add] at h1 h2 h3 h3'
      rw [Int.zero_add] at h0 h3'
      have s1 := gm_sgt h0 (gm_X a e q)
      have s2 := gm_sgt h0 (gm_X e c q)
      have s3 := gm_sgt h0 (gm_X c a q)
      have := hq (by omega) (by omega) (by omega)
      have s4 := gm_sgt h0 (gm_X c a q - h)
      have e4 : m * (gm_X c a q - h) = m * gm_X c a q - h * m := by grind
      omega
  rcases Int.lt_or_le h (gm_X c a p) with hlt | hle
  · rcases case1 hl hm h0 h1 h2 h3 h3' hp hq hlt with ⟨g1, g2⟩ | ⟨g1, g2⟩
    · exact Or.inl ⟨Or.inl g1, g2⟩
    · exact Or.inr ⟨Or.inl g1, g2⟩
  · rcases Int.lt_or_le h (gm_X c a q) with hlt | hle2
    · rcases case1 (p := q) (q := p) (l := m) (m := l) hm hl (by omega) (by omega) (by omega) (by omega) (by rw [Int.add_comm m l]; omega) hq hp hlt with ⟨g1, g2⟩ | ⟨g1, g2⟩
      · exact Or.inl ⟨Or.inr g1, gm_hit_swap.mp g2⟩
      · exact Or.inr ⟨Or.inr g1, gm_hit_swap.mp g2⟩
    · exfalso
      have k1 : 0 ≤ l * (h - gm_X c a p) := Int.mul_nonneg hl (by omega)
      have k2 : 0 ≤ m * (h - gm_X c a q) := Int.mul_nonneg hm (by omega)
      have e : h * (l + m) = l * gm_X c a p + m * gm_X c a q + l * (h - gm_X c a p) + m * (h - gm_X c a q) := by grind
      omega
/-- what is asked of a side that is neither of the two of a corner e -/
def gm_away (a e c p q : Int × Int) : Prop := (¬ gm_in a e c p ∨ p = c) ∧ (¬ gm_in a e c q ∨ q = a) ∧ ¬ (p = c ∧ q = a) ∧ (q = a ∨ ¬ gm_hit p q a e) ∧ (p = c ∨ ¬ gm_hit p q e c)
theorem gm_K1_pos {a e c p q : Int × Int} {l m : Int} (hD : 0 < gm_X a e c) (hw : gm_away a e c p q) (hl : 0 ≤ l) (hm : 0 ≤ m) (h0 : 0 < l + m) (h1 : 0 ≤ l * gm_X a e p + m * gm_X a e q) (h2 : 0 ≤ l * gm_X e c p + m * gm_X e c q) (h3 : 0 ≤ l * gm_X c a p + m * gm_X c a q) : (l = 0 ∧ q = a) ∨ (m = 0 ∧ p = c) := by
  obtain ⟨w1, w2, w3, w4, w5⟩ := hw
  rw [gm_in_pos hD] at w1 w2
  have x0 := gm_X0 a e
  have x1 := gm_X0 e c
  have x2 := gm_X0 c a
  have r1 : gm_X a e c = gm_X e c a := (gm_Xrot a e c).symm
  have r2 : gm_X c a e = gm_X a e c := (gm_Xrot c a e).symm
  by_cases hpc : p = c
  · by_cases hqa : q = a
    · exact absurd ⟨hpc, hqa⟩ w3
    · rcases Int.lt_or_le 0 m with hm1 | hm1
      · exfalso
        subst hpc
        have s1 := gm_sgt hm1 (gm_X a e q)
        have s2 := gm_sgt hm1 (gm_X e p q)
        have s3 := gm_sgt hm1 (gm_X p a q)
        have e2 : l * gm_X e p p = 0 := by rw [x1.2.1, Int.mul_zero]
        have e3 : l * gm_X p a p = 0 := by rw [x2.1, Int.mul_zero]
        have hq : ¬ (0 ≤ gm_X a e q ∧ 0 ≤ gm_X e p q ∧ 0 ≤ gm_X p a q) := by
          rcases w2 with h | h
          · exact h
          · exact absurd h hqa
        have hq1 : gm_X a e q < 0 := by omega
        rcases Int.lt_or_le 0 l with hl1 | hl1
        · rcases gm_EX (p := q) (q := p) (l := m) (m := l) hD hm1 hl1 (by omega) (by omega) (by omega) (by omega) (Or.inl hq1) with ⟨g1, g2, g3⟩ | ⟨g1, g2, g3⟩
          · rcases w4 with h | h
            · exact hqa h
            · exact h (gm_hit_swap.mp g3)
          · omega
        · have hl0 : l = 0 := by omega
          subst hl0
          rw [Int.zero_mul] at h1
          omega
      · exact Or.inr ⟨by omega, hpc⟩
  · by_cases hqa : q = a
    · rcases Int.lt_or_le 0 l with hl1 | hl1
      · exfalso
        subst hqa
        have s1 := gm_sgt hl1 (gm_X q e p)
        have s2 := gm_sgt hl1 (gm_X e c p)
        have s3 := gm_sgt hl1 (gm_X c q p)
        have e2 : m * gm_X q e q = 0 := by rw [x0.1, Int.mul_zero]
        have e3 : m * gm_X c q q = 0 := by rw [x2.2.1, Int.mul_zero]
        have hp : ¬ (0 ≤ gm_X q e p ∧ 0 ≤ gm_X e c p ∧ 0 ≤ gm_X c q p) := by
          rcases w1 with h | h
          · exact h
          · exact absurd h hpc
        have hp1 : gm_X e c p < 0 := by omega
        rcases Int.lt_or_le 0 m with hm1 | hm1
        · rcases gm_EX (p := p) (q := q) (l := l) (m := m) hD hl1 hm1 (by omega) (by omega) (by omega) (by omega) (Or.inr hp1) with ⟨g1, g2, g3⟩ | ⟨g1, g2, g3⟩
          · omega
          · rcases w5 with h | h
            · exact hpc h
            · exact h g3
        · have hm0 : m = 0 := by omega
          subst hm0
          rw [Int.zero_mul] at h2
          omega
      · exact Or.inl ⟨by omega, hqa⟩
    · exfalso
      have hp : ¬ (0 ≤ gm_X a e p ∧ 0 ≤ gm_X e c p ∧ 0 ≤ gm_X c a p) := by
        rcases w1 with h | h
        · exact h
        · exact absurd h hpc
      have hq : ¬ (0 ≤ gm_X a e q ∧ 0 ≤ gm_X e c q ∧ 0 ≤ gm_X c a q) := by
        rcases w2 with h | h
        · exact h
        · exact absurd h hqa
      rcases gm_PL (h := -1) hD (by omega) hl hm h0 h1 h2 h3 (by omega) (fun g1 g2 g3 => absurd ⟨g1, g2, g3⟩ hp) (fun g1 g2 g3 => absurd ⟨g1, g2, g3⟩ hq) with ⟨-, g⟩ | ⟨-, g⟩
      · rcases w4 with h | h
        · exact hqa h
        · exact h g
      · rcases w5 with h | h
        · exact hpc h
        · exact h g
theorem gm_away_swap {a e c p q : Int × Int} (h : gm_away a e c p q) : gm_away c e a q p := by
  obtain ⟨w1, w2, w3, w4, w5⟩ := h
  refine ⟨?_, ?_, fun h => w3 ⟨h.2, h.1⟩, ?_, ?_⟩
  · rw [gm_in_swap]; exact w2
  · rw [gm_in_swap]; exact w1
  · rw [gm_hit_swap, gm_hit_swap']; exact w5
  · rw [gm_hit_swap, gm_hit_swap']; exact w4
theorem gm_Xm (a e c : Int × Int) : gm_X c e a = - gm_X a e c := by unfold gm_X; grind
theorem gm_K1 {a e c p q : Int × Int} {l m : Int} (hD : gm_X a e c ≠ 0) (hw : gm_away a e c p q) (hl : 0 ≤ l) (hm : 0 ≤ m) (h0 : 0 < l + m)
    (h : (0 ≤ l * gm_X a e p + m * gm_X a e q ∧ 0 ≤ l * gm_X e c p + m * gm_X e c q ∧ 0 ≤ l * gm_X c a p + m * gm_X c a q) ∨ (l * gm_X a e p + m * gm_X a e q ≤ 0 ∧ l * gm_X e c p + m * gm_X e c q ≤ 0 ∧ l * gm_X c a p + m * gm_X c a q ≤ 0)) : (l = 0 ∧ q = a) ∨ (m = 0 ∧ p = c) := by
  have hs : (l * gm_X a e p + m * gm_X a e q) + (l * gm_X e c p + m * gm_X e c q) + (l * gm_X c a p + m * gm_X c a q) = (l + m) * gm_X a e c := by
    have := gm_X3 a e c p
    have := gm_X3 a e c q
    grind
  have sD := gm_sgt h0 (gm_X a e c)
  rcases Int.lt_or_le 0 (gm_X a e c) with h1 | h1
  · exact gm_K1_pos h1 hw hl hm h0 (by omega) (by omega) (by omega)
  · have h2 : 0 < gm_X c e a := by rw [gm_Xm]; omega
    have e1 : ∀ z, gm_X c e z = - gm_X e c z := fun z => gm_Xswap e c z
    have e2 : ∀ z, gm_X e a z = - gm_X a e z := fun z => gm_Xswap a e z
    have e3 : ∀ z, gm_X a c z = - gm_X c a z := fun z => gm_Xswap c a z
    rcases gm_K1_pos (a := c) (c := a) (p := q) (q := p) (l := m) (m := l) h2 (gm_away_swap hw) hm hl (by omega) (by rw [e1, e1]; grind) (by rw [e2, e2]; grind) (by rw [e3, e3]; grind) with ⟨g1, g2⟩ | ⟨g1, g2⟩
    · exact Or.inr ⟨g1, g2⟩
    · exact Or.inl ⟨g1, g2⟩
/-- a move from e in its triangle meets no other side -/
theorem gm_K3 {a e c p q z : Int × Int} (hD : gm_X a e c ≠ 0) (hw : gm_away a e c p q) (hz : gm_in a e c z) (z1 : gm_X a e z ≠ 0) (z2 : gm_X e c z ≠ 0) : gm_J e z p q = 0 := by
  refine Classical.byContradiction (fun hJ => ?_)
  obtain ⟨l, m, n, k, hl, hm, hn, hk, h0, h1, ⟨h2, h3⟩, h4, h5, h6, h7⟩ := gm_J_mt hJ
  have y1 := gm_mt_X h1 h2 h3 a e
  have y2 := gm_mt_X h1 h2 h3 e c
  have y3 := gm_mt_X h1 h2 h3 c a
  have x0 := gm_X0 a e
  have x1 := gm_X0 e c
  have r2 : gm_X c a e = gm_X a e c := (gm_Xrot c a e).symm
  have hs := gm_X3 a e c z
  have hkey : (l = 0 ∧ q = a) ∨ (m = 0 ∧ p = c) := by
    refine gm_K1 hD hw hl hm h0 ?_
    rw [y1, y2, y3, x0.2.1, x1.1, r2, Int.mul_zero, Int.zero_add, Int.zero_add]
    have pk : ∀ {x : Int}, 0 ≤ x → 0 ≤ k * x := fun h => Int.mul_nonneg hk h
    have nk : ∀ {x : Int}, x ≤ 0 → k * x ≤ 0 := fun h => Int.mul_nonpos_of_nonneg_of_nonpos hk h
    have pn : ∀ {x : Int}, 0 ≤ x → 0 ≤ n * x := fun h => Int.mul_nonneg hn h
    have nn : ∀ {x : Int}, x ≤ 0 → n * x ≤ 0 := fun h => Int.mul_nonpos_of_nonneg_of_nonpos hn h
    rcases hz with ⟨g1, g2, g3⟩ | ⟨g1, g2, g3⟩
    · exact Or.inl ⟨pk g1, pk g2, by have := pk g3; have := pn (x := gm_X a e c) (by omega); omega⟩
    · exact Or.inr ⟨nk g1, nk g2, by have := nk g3; have := nn (x := gm_X a e c) (by omega); omega⟩
  rcases hkey with ⟨g1, g2⟩ | ⟨g1, g2⟩
  · have := h4 g1
    rw [g2, (gm_Xrot a e z : gm_X e z a = gm_X a e z)] at this
    exact z1 this
  · have := h5 g1
    rw [g2] at this
    have e : gm_X e z c = - gm_X e c z := by unfold gm_X; grind
    omega
end RZG06
