/-! part 97za05: simple polygons: way out -/
section RZG05
/-- a common place of two sides -/
def gm_mt (p q r s : Int × Int) : Prop := ∃ l m n k : Int, 0 ≤ l ∧ 0 ≤ m ∧ 0 ≤ n ∧ 0 ≤ k ∧ 0 < l + m ∧ l + m = n + k ∧ l * p.1 + m * q.1 = n * r.1 + k * s.1 ∧ l * p.2 + m * q.2 = n * r.2 + k * s.2
theorem gm_J_cross {y z p q : Int × Int} (h : gm_J y z p q ≠ 0) : (0 ≤ gm_X y z q ∧ gm_X y z p ≤ 0 ∧ gm_X y z p < gm_X y z q ∧ 0 ≤ gm_X p q y ∧ gm_X p q z ≤ 0) ∨ (gm_X y z q ≤ 0 ∧ 0 ≤ gm_X y z p ∧ gm_X y z q < gm_X y z p ∧ gm_X p q y ≤ 0 ∧ 0 ≤ gm_X p q z) := by
  have c0 := gm_cross0 p q y z
  unfold gm_J at h
  by_cases hi : gm_am y z p ↔ gm_am y z q
  · rw [if_pos hi] at h; exact absurd rfl h
  · rw [if_neg hi] at h
    unfold gm_am at hi
    unfold gm_tp at h
    generalize gm_X y z p = A at *
    generalize gm_X y z q = B at *
    generalize gm_X p q y = L at *
    generalize gm_X p q z = M at *
    split at h <;> split at h <;> omega
theorem gm_J_mt {y z p q : Int × Int} (h : gm_J y z p q ≠ 0) : ∃ l m n k : Int, 0 ≤ l ∧ 0 ≤ m ∧ 0 ≤ n ∧ 0 ≤ k ∧ 0 < l + m ∧ l + m = n + k ∧ (l * p.1 + m * q.1 = n * y.1 + k * z.1 ∧ l * p.2 + m * q.2 = n * y.2 + k * z.2) ∧ (l = 0 → gm_X y z q = 0) ∧ (m = 0 → gm_X y z p = 0) ∧ (gm_X y z p = 0 → m = 0) ∧ (gm_X y z q = 0 → l = 0) := by
  have c0 := gm_cross0 p q y z
  have c1 := gm_cross1 p q y z
  have c2 := gm_cross2 p q y z
  rcases gm_J_cross h with ⟨h1, h2, h3, h4, h5⟩ | ⟨h1, h2, h3, h4, h5⟩
  · exact ⟨gm_X y z q, - gm_X y z p, - gm_X p q z, gm_X p q y, h1, by omega, by omega, h4, by omega, by omega, ⟨by grind, by grind⟩, fun h => h, fun h => by omega, fun h => by omega, fun h => h⟩
  · exact ⟨- gm_X y z q, gm_X y z p, gm_X p q z, - gm_X p q y, by omega, by omega, by omega, by omega, by omega, by omega, ⟨by grind, by grind⟩, fun h => by omega, fun h => h, fun h => h, fun h => by omega⟩
/-- sides that don't hit are not crossed -/
theorem gm_J_hit {y z p q : Int × Int} (h : ¬ gm_hit p q y z) : gm_J y z p q = 0 := by
  refine Classical.byContradiction (fun hJ => h ?_)
  obtain ⟨l, m, n, k, hl, hm, hn, hk, h0, h1, ⟨h2, h3⟩, h4, h5, h6, h7⟩ := gm_J_mt hJ
  by_cases ha : gm_X y z p = 0
  · have hm0 := h6 ha
    subst hm0
    refine Or.inl (Or.inr (Or.inr (Or.inl (gm_on_of (l := n) (m := k) hn hk (by omega) ?_ ?_)))) <;> grind
  · by_cases hb : gm_X y z q = 0
    · have hl0 := h7 hb
      subst hl0
      refine Or.inl (Or.inr (Or.inr (Or.inr (gm_on_of (l := n) (m := k) hn hk (by omega) ?_ ?_)))) <;> grind
    · rcases gm_J_cross hJ with ⟨g1, g2, g3, g4, g5⟩ | ⟨g1, g2, g3, g4, g5⟩
      · exact gm_hit_of (by omega) (by omega) (Or.inl ⟨g4, g5⟩)
      · have e1 : gm_X q p y = - gm_X p q y := by unfold gm_X; grind
        have e2 : gm_X q p z = - gm_X p q z := by unfold gm_X; grind
        exact gm_hit_swap.mp (gm_hit_of (p := q) (q := p) (by omega) (by omega) (Or.inl ⟨by omega, by omega⟩))
theorem gm_on_wt {p q z : Int × Int} (hpq : p ≠ q) (h : gm_on p q z) : ∃ l m : Int, 0 ≤ l ∧ 0 ≤ m ∧ 0 < l + m ∧ (l + m) * z.1 = l * p.1 + m * q.1 ∧ (l + m) * z.2 = l * p.2 + m * q.2 := by
  obtain ⟨px, py⟩ := p
  obtain ⟨qx, qy⟩ := q
  obtain ⟨zx, zy⟩ := z
  obtain ⟨h1, h2, h3⟩ := h
  unfold gm_X at h1
  simp only at h1 h2 h3 ⊢
  by_cases hx : px = qx
  · have hy : py ≠ qy := fun hy => hpq (by rw [hx, hy])
    subst hx
    have hz : zx = px := by omega
    subst hz
    rcases Int.lt_or_le py qy with h4 | h4
    · exact ⟨qy - zy, zy - py, by omega, by omega, by omega, by grind, by grind⟩
    · exact ⟨zy - qy, py - zy, by omega, by omega, by omega, by grind, by grind⟩
  · rcases Int.lt_or_le px qx with h4 | h4
    · exact ⟨qx - zx, zx - px, by omega, by omega, by omega, by grind, by grind⟩
    · exact ⟨zx - qx, px - zx, by omega, by omega, by omega, by grind, by grind⟩
theorem gm_hit_mt {p q r s : Int × Int} (hpq : p ≠ q) (hrs : r ≠ s) (h : gm_hit p q r s) : gm_mt p q r s := by
  rcases h with (h | h | h | h) | ⟨h, h'⟩
  · obtain ⟨l, m, hl, hm, h0, h1, h2⟩ := gm_on_wt hpq h
    exact ⟨l, m, l + m, 0, hl, hm, by omega, by omega, h0, by omega, by omega, by omega⟩
  · obtain ⟨l, m, hl, hm, h0, h1, h2⟩ := gm_on_wt hpq h
    exact ⟨l, m, 0, l + m, hl, hm, by omega, by omega, h0, by omega, by omega, by omega⟩
  · obtain ⟨l, m, hl, hm, h0, h1, h2⟩ := gm_on_wt hrs h
    exact ⟨l + m, 0, l, m, by omega, by omega, hl, hm, by omega, by omega, by omega, by omega⟩
  · obtain ⟨l, m, hl, hm, h0, h1, h2⟩ := gm_on_wt hrs h
    exact ⟨0, l + m, l, m, by omega, by omega, hl, hm, by omega, by omega, by omega, by omega⟩
  · have c0 := gm_cross0 p q r s
    have c1 := gm_cross1 p q r s
    have c2 := gm_cross2 p q r s
    unfold gm_crs at h h'
    rcases h with ⟨g1, g2⟩ | ⟨g1, g2⟩
    · exact ⟨gm_X r s q, - gm_X r s p, - gm_X p q s, gm_X p q r, by omega, by omega, by omega, by omega, by omega, by omega, by grind, by grind⟩
    · exact ⟨- gm_X r s q, gm_X r s p, gm_X p q s, - gm_X p q r, by omega, by omega, by omega, by omega, by omega, by omega, by grind, by grind⟩
/-- a line tells the same of a common place -/
theorem gm_mt_X {p q r s : Int × Int} {l m n k : Int} (h0 : l + m = n + k) (h1 : l * p.1 + m * q.1 = n * r.1 + k * s.1) (h2 : l * p.2 + m * q.2 = n * r.2 + k * s.2) (g h : Int × Int) : l * gm_X g h p + m * gm_X g h q = n * gm_X g h r + k * gm_X g h s := by
  unfold gm_X
  have e1 : l * ((h.1 - g.1) * (p.2 - g.2) - (h.2 - g.2) * (p.1 - g.1)) + m * ((h.1 - g.1) * (q.2 - g.2) - (h.2 - g.2) * (q.1 - g.1)) = (h.1 - g.1) * (l * p.2 + m * q.2 - (l + m) * g.2) - (h.2 - g.2) * (l * p.1 + m * q.1 - (l + m) * g.1) := by grind
  have e2 : n * ((h.1 - g.1) * (r.2 - g.2) - (h.2 - g.2) * (r.1 - g.1)) + k * ((h.1 - g.1) * (s.2 - g.2) - (h.2 - g.2) * (s.1 - g.1)) = (h.1 - g.1) * (n * r.2 + k * s.2 - (n + k) * g.2) - (h.2 - g.2) * (n * r.1 + k * s.1 - (n + k) * g.1) := by grind
  rw [e1, e2, h0, h1, h2]
theorem gm_X0 (a b : Int × Int) : gm_X a b a = 0 ∧ gm_X a b b = 0 ∧ gm_X a a b = 0 := by unfold gm_X; refine ⟨?_, ?_, ?_⟩ <;> grind
theorem gm_Xrot (a b c : Int × Int) : gm_X b c a = gm_X a b c := by unfold gm_X; grind
/-- the way out of a triangle -/
theorem gm_EX {a e c p q : Int × Int} {l m : Int} (hD : 0 < gm_X a e c) (hl : 0 < l) (hm : 0 < m) (h1 : 0 ≤ l * gm_X a e p + m * gm_X a e q) (h2 : 0 ≤ l * gm_X e c p + m * gm_X e c q) (h3 : 0 ≤ l * gm_X c a p + m * gm_X c a q) (h3p : 0 ≤ gm_X c a p) (hv : gm_X a e p < 0 ∨ gm_X e c p < 0) :
    (gm_X a e p < 0 ∧ 0 < gm_X a e q ∧ gm_hit p q a e) ∨ (gm_X e c p < 0 ∧ 0 < gm_X e c q ∧ gm_hit p q e c) := by
  have V3 := gm_cross p q a e c a
  have V2 := gm_cross p q a e e c
  have W3 := gm_cross p q e c c a
  have W1 := gm_cross p q e c a e
  rw [(gm_X0 c a).2.1, (gm_Xrot a e c ▸ gm_Xrot e c a : gm_X c a e = gm_X a e c)] at V3
  rw [(gm_X0 e c).1, gm_Xrot a e c] at V2
  rw [(gm_X0 c a).1, (gm_Xrot a e c ▸ gm_Xrot e c a : gm_X c a e = gm_X a e c)] at W3
  rw [(gm_X0 a e).2.1] at W1
  have sa := gm_sgt hD (gm_X p q a)
  have se := gm_sgt hD (gm_X p q e)
  have sc := gm_sgt hD (gm_X p q c)
  rw [Int.mul_comm] at sa se sc
  have m3 : m * (gm_X a e q * gm_X c a p - gm_X a e p * gm_X c a q) = (l * gm_X a e p + m * gm_X a e q) * gm_X c a p + (- gm_X a e p) * (l * gm_X c a p + m * gm_X c a q) := by grind
  have m2 : m * (gm_X a e q * gm_X e c p - gm_X a e p * gm_X e c q) = (l * gm_X a e p + m * gm_X a e q) * gm_X e c p + (- gm_X a e p) * (l * gm_X e c p + m * gm_X e c q) := by grind
  have n3 : m * (gm_X e c q * gm_X c a p - gm_X e c p * gm_X c a q) = (l * gm_X e c p + m * gm_X e c q) * gm_X c a p + (- gm_X e c p) * (l * gm_X c a p + m * gm_X c a q) := by grind
  have n1 : m * (gm_X e c q * gm_X a e p - gm_X e c p * gm_X a e q) = (l * gm_X e c p + m * gm_X e c q) * gm_X a e p + (- gm_X e c p) * (l * gm_X a e p + m * gm_X a e q) := by grind
  have n1' : gm_X e c q * gm_X a e p - gm_X e c p * gm_X a e q = - (gm_X a e q * gm_X e c p - gm_X a e p * gm_X e c q) := by grind
  have hq1 : gm_X a e p < 0 → 0 < gm_X a e q := by
    intro h
    have : l * gm_X a e p < 0 := Int.mul_neg_of_pos_of_neg hl h
    have h4 : 0 < m * gm_X a e q := by omega
    have := gm_sgt hm (gm_X a e q)
    omega
  have hq2 : gm_X e c p < 0 → 0 < gm_X e c q := by
    intro h
    have : l * gm_X e c p < 0 := Int.mul_neg_of_pos_of_neg hl h
    have h4 : 0 < m * gm_X e c q := by omega
    have := gm_sgt hm (gm_X e c q)
    omega
  have sV3 := gm_sgt hm (gm_X a e q * gm_X c a p - gm_X a e p * gm_X c a q)
  have sV2 := gm_sgt hm (gm_X a e q * gm_X e c p - gm_X a e p * gm_X e c q)
  have sW3 := gm_sgt hm (gm_X e c q * gm_X c a p - gm_X e c p * gm_X c a q)
  have sW1 := gm_sgt hm (gm_X e c q * gm_X a e p - gm_X e c p * gm_X a e q)
  by_cases hp1 : gm_X a e p < 0
  · have k3 : 0 ≤ (l * gm_X a e p + m * gm_X a e q) * gm_X c a p := Int.mul_nonneg h1 h3p
    have k3' : 0 ≤ (- gm_X a e p) * (l * gm_X c a p + m * gm_X c a q) := Int.mul_nonneg (by omega) h3
    by_cases hV2 : 0 ≤ gm_X a e q * gm_X e c p - gm_X a e p * gm_X e c q
    · refine Or.inl ⟨hp1, hq1 hp1, gm_hit_of hp1 (hq1 hp1) (Or.inl ⟨?_, ?_⟩)⟩
      · omega
      · omega
    · have hp2 : gm_X e c p < 0 := by
        refine Classical.byContradiction (fun h => ?_)
        have k2 : 0 ≤ (l * gm_X a e p + m * gm_X a e q) * gm_X e c p := Int.mul_nonneg h1 (by omega)
        have k2' : 0 ≤ (- gm_X a e p) * (l * gm_X e c p + m * gm_X e c q) := Int.mul_nonneg (by omega) h2
        omega
      have k4 : 0 ≤ (l * gm_X e c p + m * gm_X e c q) * gm_X c a p := Int.mul_nonneg h2 h3p
      have k4' : 0 ≤ (- gm_X e c p) * (l * gm_X c a p + m * gm_X c a q) := Int.mul_nonneg (by omega) h3
      refine Or.inr ⟨hp2, hq2 hp2, gm_hit_of hp2 (hq2 hp2) (Or.inl ⟨?_, ?_⟩)⟩
      · omega
      · omega
  · have hp2 : gm_X e c p < 0 := by omega
    have k4 : 0 ≤ (l * gm_X e c p + m * gm_X e c q) * gm_X c a p := Int.mul_nonneg h2 h3p
    have k4' : 0 ≤ (- gm_X e c p) * (l * gm_X c a p + m * gm_X c a q) := Int.mul_nonneg (by omega) h3
    have k1 : 0 ≤ (l * gm_X e c p + m * gm_X e c q) * gm_X a e p := Int.mul_nonneg h2 (by omega)
    have k1' : 0 ≤ (- gm_X e c p) * (l * gm_X a e p + m * gm_X a e q) := Int.mul_nonneg (by omega) h1
    refine Or.inr ⟨hp2, hq2 hp2, gm_hit_of hp2 (hq2 hp2) (Or.inl ⟨?_, ?_⟩)⟩
    · omega
    · omega
end RZG05
