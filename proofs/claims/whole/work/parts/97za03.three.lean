/-! part 97za03: simple polygons: three -/
section RZG03
set_option maxHeartbeats 80000000 in
theorem gm_tl_core {ua ue uc T1 T2 T3 D ax ex cx : Int} (hD : 0 < D) (hs : T1 + T2 + T3 = D) (hm : T2 * ua + T3 * ue + T1 * uc = 0) (h1 : ua = ue → (ax < ex ↔ ua < uc)) (h2 : ue = uc → (ex < cx ↔ ue < ua)) (h3 : uc = ua → (cx < ax ↔ uc < ue)) (h4 : ua = ue → ue ≠ uc) :
    gm_k ua ue T1 + gm_k ue uc T2 + gm_k uc ua T3 = if (0 < T1 ∨ (T1 = 0 ∧ (ue < ua ∨ (ue = ua ∧ ax < ex)))) ∧ (0 < T2 ∨ (T2 = 0 ∧ (uc < ue ∨ (uc = ue ∧ ex < cx)))) ∧ (0 < T3 ∨ (T3 = 0 ∧ (ua < uc ∨ (ua = uc ∧ cx < ax)))) then 1 else 0 := by
  rcases Int.lt_trichotomy T1 0 with hT1 | hT1 | hT1 <;> rcases Int.lt_trichotomy T2 0 with hT2 | hT2 | hT2 <;> rcases Int.lt_trichotomy T3 0 with hT3 | hT3 | hT3 <;> first
    | (exfalso; omega)
    | (rcases Int.lt_trichotomy ua 0 with ha | ha | ha <;> rcases Int.lt_trichotomy ue 0 with he | he | he <;> rcases Int.lt_trichotomy uc 0 with hc | hc | hc <;>
       ((first | have p1 := Int.mul_pos hT2 ha | have p1 := Int.mul_neg_of_pos_of_neg hT2 ha | have p1 := Int.mul_neg_of_neg_of_pos hT2 ha | have p1 := Int.mul_pos_of_neg_of_neg hT2 ha | have p1 : T2 * ua = 0 := by rw [hT2, Int.zero_mul] | have p1 : T2 * ua = 0 := by rw [ha, Int.mul_zero])
        (first | have p2 := Int.mul_pos hT3 he | have p2 := Int.mul_neg_of_pos_of_neg hT3 he | have p2 := Int.mul_neg_of_neg_of_pos hT3 he | have p2 := Int.mul_pos_of_neg_of_neg hT3 he | have p2 : T3 * ue = 0 := by rw [hT3, Int.zero_mul] | have p2 : T3 * ue = 0 := by rw [he, Int.mul_zero])
        (first | have p3 := Int.mul_pos hT1 hc | have p3 := Int.mul_neg_of_pos_of_neg hT1 hc | have p3 := Int.mul_neg_of_neg_of_pos hT1 hc | have p3 := Int.mul_pos_of_neg_of_neg hT1 hc | have p3 : T1 * uc = 0 := by rw [hT1, Int.zero_mul] | have p3 : T1 * uc = 0 := by rw [hc, Int.mul_zero])
        generalize T2 * ua = q1 at *
        generalize T3 * ue = q2 at *
        generalize T1 * uc = q3 at *
        first
          | (exfalso; omega)
          | ((first | rw [gm_k1 (u := ua) (v := ue) (T := T1) (by omega)] | rw [gm_k2 (u := ua) (v := ue) (T := T1) (by omega)] | rw [gm_k0 (u := ua) (v := ue) (T := T1) (by omega) (by omega)])
             (first | rw [gm_k1 (u := ue) (v := uc) (T := T2) (by omega)] | rw [gm_k2 (u := ue) (v := uc) (T := T2) (by omega)] | rw [gm_k0 (u := ue) (v := uc) (T := T2) (by omega) (by omega)])
             (first | rw [gm_k1 (u := uc) (v := ua) (T := T3) (by omega)] | rw [gm_k2 (u := uc) (v := ua) (T := T3) (by omega)] | rw [gm_k0 (u := uc) (v := ua) (T := T3) (by omega) (by omega)])
             split <;> omega)))
theorem gm_tl_pos {a e c z : Int × Int} (hD : 0 < gm_X a e c) : gm_cr z a e + gm_cr z e c + gm_cr z c a = if gm_tp a e z ∧ gm_tp e c z ∧ gm_tp c a z then 1 else 0 := by
  obtain ⟨ax, ay⟩ := a
  obtain ⟨ex, ey⟩ := e
  obtain ⟨cx, cy⟩ := c
  obtain ⟨zx, zy⟩ := z
  have eD : gm_X (ax, ay) (ex, ey) (cx, cy) = (ex - ax) * (cy - ay) - (ey - ay) * (cx - ax) := rfl
  have hm : gm_X (ex, ey) (cx, cy) (zx, zy) * (ay - zy) + gm_X (cx, cy) (ax, ay) (zx, zy) * (ey - zy) + gm_X (ax, ay) (ex, ey) (zx, zy) * (cy - zy) = 0 := by unfold gm_X; grind
  have hs : gm_X (ax, ay) (ex, ey) (zx, zy) + gm_X (ex, ey) (cx, cy) (zx, zy) + gm_X (cx, cy) (ax, ay) (zx, zy) = gm_X (ax, ay) (ex, ey) (cx, cy) := by unfold gm_X; grind
  have sgn : ∀ {x y : Int}, 0 < x * y → (0 < x ↔ 0 < y) := by
    intro x y h
    rcases Int.lt_trichotomy x 0 with hx | hx | hx
    · have := gm_sgt (t := - x) (by omega) y
      have e : - x * y = - (x * y) := by grind
      omega
    · subst hx; omega
    · have := gm_sgt hx y; omega
  have h1 : ay - zy = ey - zy → (ax < ex ↔ ay - zy < cy - zy) := by
    intro h
    have : 0 < (ex - ax) * (cy - ay) := by
      have h' : ey - ay = 0 := by omega
      rw [h'] at eD; omega
    have := sgn this
    omega
  have h2 : ey - zy = cy - zy → (ex < cx ↔ ey - zy < ay - zy) := by
    intro h
    have h' : ey = cy := by omega
    subst h'
    have : 0 < (cx - ex) * (ay - ey) := by rw [eD] at hD; grind
    have := sgn this
    omega
  have h3 : cy - zy = ay - zy → (cx < ax ↔ cy - zy < ey - zy) := by
    intro h
    have h' : cy = ay := by omega
    subst h'
    have : 0 < (ax - cx) * (ey - cy) := by rw [eD] at hD; grind
    have := sgn this
    omega
  have h4 : ay - zy = ey - zy → ey - zy ≠ cy - zy := by
    intro h h'
    have e1 : ey - ay = 0 := by omega
    have e2 : cy - ay = 0 := by omega
    rw [e1, e2] at eD
    omega
  have c := gm_tl_core (ua := ay - zy) (ue := ey - zy) (uc := cy - zy) (ax := ax) (ex := ex) (cx := cx) hD hs hm h1 h2 h3 h4
  unfold gm_cr gm_tp
  simp only
  rw [c]
  refine gm_ifc ?_ _ _
  omega
end RZG03
