/-! part 97za01: simple polygons: core -/
section RZG01
theorem gm_pz {x y : Int} (hx : 0 ≤ x) (hy : 0 ≤ y) : 0 ≤ x * y ∧ (x * y = 0 → x = 0 ∨ y = 0) := ⟨Int.mul_nonneg hx hy, Int.mul_eq_zero.mp⟩
theorem gm_pn {x y : Int} (hx : 0 ≤ x) (hy : y ≤ 0) : x * y ≤ 0 ∧ (x * y = 0 → x = 0 ∨ y = 0) := ⟨Int.mul_nonpos_of_nonneg_of_nonpos hx hy, Int.mul_eq_zero.mp⟩
theorem gm_nz {x y : Int} (hx : x ≤ 0) (hy : 0 ≤ y) : x * y ≤ 0 ∧ (x * y = 0 → x = 0 ∨ y = 0) := ⟨Int.mul_nonpos_of_nonpos_of_nonneg hx hy, Int.mul_eq_zero.mp⟩
theorem gm_nn {x y : Int} (hx : x ≤ 0) (hy : y ≤ 0) : 0 ≤ x * y ∧ (x * y = 0 → x = 0 ∨ y = 0) := ⟨Int.mul_nonneg_of_nonpos_of_nonpos hx hy, Int.mul_eq_zero.mp⟩
theorem gm_sgt {t : Int} (ht : 0 < t) (T : Int) : (0 < T ∧ 0 < t * T) ∨ (T = 0 ∧ t * T = 0) ∨ (T < 0 ∧ t * T < 0) := by
  rcases Int.lt_trichotomy T 0 with h | h | h
  · exact Or.inr (Or.inr ⟨h, Int.mul_neg_of_pos_of_neg ht h⟩)
  · exact Or.inr (Or.inl ⟨h, by rw [h, Int.mul_zero]⟩)
  · exact Or.inl ⟨h, Int.mul_pos ht h⟩
def gm_k (u v T : Int) : Int := if u ≤ 0 ∧ 0 < v ∧ 0 < T then 1 else if v ≤ 0 ∧ 0 < u ∧ T < 0 then -1 else 0
theorem gm_k1 {u v T : Int} (h : u ≤ 0 ∧ 0 < v ∧ 0 < T) : gm_k u v T = 1 := if_pos h
theorem gm_k2 {u v T : Int} (h : v ≤ 0 ∧ 0 < u ∧ T < 0) : gm_k u v T = -1 := by unfold gm_k; rw [if_neg (by omega), if_pos h]
theorem gm_k0 {u v T : Int} (h : ¬ (u ≤ 0 ∧ 0 < v ∧ 0 < T)) (h' : ¬ (v ≤ 0 ∧ 0 < u ∧ T < 0)) : gm_k u v T = 0 := by unfold gm_k; rw [if_neg h, if_neg h']
set_option maxHeartbeats 40000000 in
theorem gm_core {u v t a b T T' p q : Int} (ht : 0 < t) (e0 : T' = T + a - b) (e1 : a * v - b * u = - (t * T)) (e3 : a * (v - t) - b * (u - t) = - (t * T')) (hd : v = u → (p < q ↔ b < a)) :
  gm_k u v T - gm_k (u - t) (v - t) T'
  = (if 0 < v ∧ v ≤ t ∧ b < 0 then 1 else 0) - (if 0 < u ∧ u ≤ t ∧ a < 0 then 1 else 0) + (if (0 ≤ a ↔ 0 ≤ b) then 0 else (if 0 < T ∨ (T = 0 ∧ (v < u ∨ (v = u ∧ p < q))) then 1 else 0) - (if 0 < T' ∨ (T' = 0 ∧ (v < u ∨ (v = u ∧ p < q))) then 1 else 0)) := by
  have t1 := gm_sgt ht T
  have t2 := gm_sgt ht T'
  rcases Int.lt_or_le a 0 with ha | ha <;> rcases Int.lt_or_le b 0 with hb | hb <;> rcases Int.lt_or_le 0 u with hu | hu <;> rcases Int.lt_or_le 0 v with hv | hv <;> rcases Int.lt_or_le t u with hu' | hu' <;> rcases Int.lt_or_le t v with hv' | hv' <;> try (exfalso; omega)
  all_goals
    (first | have w1 := gm_pz (x := a) (y := v) (by omega) (by omega) | have w1 := gm_pn (x := a) (y := v) (by omega) (by omega) | have w1 := gm_nz (x := a) (y := v) (by omega) (by omega) | have w1 := gm_nn (x := a) (y := v) (by omega) (by omega))
    (first | have w2 := gm_pz (x := b) (y := u) (by omega) (by omega) | have w2 := gm_pn (x := b) (y := u) (by omega) (by omega) | have w2 := gm_nz (x := b) (y := u) (by omega) (by omega) | have w2 := gm_nn (x := b) (y := u) (by omega) (by omega))
    (first | have w3 := gm_pz (x := a) (y := v - t) (by omega) (by omega) | have w3 := gm_pn (x := a) (y := v - t) (by omega) (by omega) | have w3 := gm_nz (x := a) (y := v - t) (by omega) (by omega) | have w3 := gm_nn (x := a) (y := v - t) (by omega) (by omega))
    (first | have w4 := gm_pz (x := b) (y := u - t) (by omega) (by omega) | have w4 := gm_pn (x := b) (y := u - t) (by omega) (by omega) | have w4 := gm_nz (x := b) (y := u - t) (by omega) (by omega) | have w4 := gm_nn (x := b) (y := u - t) (by omega) (by omega))
    clear ht
    generalize a * v = av at *
    generalize b * u = bu at *
    generalize a * (v - t) = av' at *
    generalize b * (u - t) = bu' at *
    generalize t * T = tT at *
    generalize t * T' = tT' at *
    rcases t1 with t1 | t1 | t1 <;> rcases t2 with t2 | t2 | t2 <;> first
      | (exfalso; omega)
      | ((first | rw [gm_k1 (u := u) (v := v) (T := T) (by omega)] | rw [gm_k2 (u := u) (v := v) (T := T) (by omega)] | rw [gm_k0 (u := u) (v := v) (T := T) (by omega) (by omega)])
         (first | rw [gm_k1 (u := u - t) (v := v - t) (T := T') (by omega)] | rw [gm_k2 (u := u - t) (v := v - t) (T := T') (by omega)] | rw [gm_k0 (u := u - t) (v := v - t) (T := T') (by omega) (by omega)])
         repeat' split
         all_goals omega)
end RZG01
