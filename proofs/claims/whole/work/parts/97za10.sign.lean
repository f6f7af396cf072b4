/-! part 97za10: simple polygons: sign -/
section RZG10
theorem gm_u_ne (D : Int) : gm_u D ≠ 0 := by unfold gm_u; split <;> omega
theorem gm_u_mul {t : Int} (ht : 0 < t) (x : Int) : gm_u (t * x) = gm_u x := by
  have := gm_sgt ht x
  unfold gm_u
  exact gm_ifc (by omega) _ _
theorem gm_u_pos {D : Int} (h : 0 < D) : gm_u D = 1 := if_pos h
theorem gm_u_neg {D : Int} (h : ¬ 0 < D) : gm_u D = -1 := if_neg h
theorem gm_u_add {A D : Int} (hA : A ≠ 0) (hD : D ≠ 0) (h : gm_u A = gm_u D) : A + D ≠ 0 ∧ gm_u (A + D) = gm_u D := by
  by_cases h1 : 0 < A
  · by_cases h2 : 0 < D
    · rw [gm_u_pos h2, gm_u_pos (show 0 < A + D by omega)]; exact ⟨by omega, rfl⟩
    · rw [gm_u_pos h1, gm_u_neg h2] at h; omega
  · by_cases h2 : 0 < D
    · rw [gm_u_neg h1, gm_u_pos h2] at h; omega
    · rw [gm_u_neg h2, gm_u_neg (show ¬ 0 < A + D by omega)]; exact ⟨by omega, rfl⟩
theorem gm_J_of {z w p q : Int × Int} (h : (0 < gm_X z w p ∧ gm_X z w q < 0) ∨ (gm_X z w p < 0 ∧ 0 < gm_X z w q)) : gm_J z w p q = (if gm_tp p q z then 1 else 0) - (if gm_tp p q w then 1 else 0) := by
  unfold gm_J
  refine if_neg (fun hi => ?_)
  unfold gm_am at hi
  rcases h with ⟨h1, h2⟩ | ⟨h1, h2⟩
  · have := hi.mp (Or.inl h1); omega
  · have := hi.mpr (Or.inl h2); omega
set_option maxHeartbeats 2000000 in
/-- what is left has the sign of the ear -/
theorem gm_sign {a e c : Int × Int} {R : List (Int × Int)} (hS : gm_ok (gm_C (a :: e :: c :: R))) (hR : R ≠ []) (hD : gm_X a e c ≠ 0) (hE : ∀ k, k ∈ R → ¬ gm_in a e c k) (hw : gm_w (gm_C (a :: c :: R)) e = 0) (hJn : ∀ N : Int, 0 < N → gm_jn (gm_C ((a :: c :: R).map (gm_c N)))) : gm_u (gm_ar (gm_C (a :: c :: R))) = gm_u (gm_X a e c) := by
  have h2 : (0 : Int) < 2 := by omega
  have hS2 := gm_ok_c h2 hS
  have hJn2 : ∀ N : Int, 0 < N → gm_jn (gm_C (((a :: c :: R).map (gm_c 2)).map (gm_c N))) := by
    intro N hN
    rw [gm_c_c]
    exact hJn _ (by omega)
  have hw2 : gm_w (gm_C ((a :: c :: R).map (gm_c 2))) (gm_c 2 e) = 0 := by rw [gm_w_c h2]; exact hw
  have hE2 : ∀ k, k ∈ R.map (gm_c 2) → ¬ gm_in (gm_c 2 a) (gm_c 2 e) (gm_c 2 c) k := by
    intro k hk
    obtain ⟨k', hk', rfl⟩ := List.mem_map.mp hk
    exact fun h => hE k' hk' ((gm_cin h2 _ _ _ _).mp h)
  have hR2 : R.map (gm_c 2) ≠ [] := fun h => hR (List.map_eq_nil_iff.mp h)
  have hD2 : gm_X (gm_c 2 a) (gm_c 2 e) (gm_c 2 c) ≠ 0 := by rw [gm_cX]; omega
  have eA : gm_u (gm_ar (gm_C (a :: c :: R))) = gm_u (gm_ar (gm_C ((a :: c :: R).map (gm_c 2)))) := by
    rw [gm_ar_c, gm_u_mul (by omega)]
  have eD : gm_u (gm_X a e c) = gm_u (gm_X (gm_c 2 a) (gm_c 2 e) (gm_c 2 c)) := by
    rw [gm_cX, gm_u_mul (by omega)]
  rw [eA, eD]
  generalize hm : (a.1 + c.1, a.2 + c.2) = m
  have m1 : m.1 + m.1 = (gm_c 2 a).1 + (gm_c 2 c).1 := by rw [← hm]; show a.1 + c.1 + (a.1 + c.1) = 2 * a.1 + 2 * c.1; omega
  have m2 : m.2 + m.2 = (gm_c 2 a).2 + (gm_c 2 c).2 := by rw [← hm]; show a.2 + c.2 + (a.2 + c.2) = 2 * a.2 + 2 * c.2; omega
  simp only [List.map_cons] at hS2 hJn2 hw2 ⊢
  generalize gm_c 2 a = a at *
  generalize gm_c 2 e = e at *
  generalize gm_c 2 c = c at *
  generalize R.map (gm_c 2) = R at *
  clear hS hJn hw hE hR hD eA eD hm
  have f1 : 2 * gm_X a e m = gm_X a e c := by
    have : 2 * gm_X a e m = (e.1 - a.1) * (m.2 + m.2 - 2 * a.2) - (e.2 - a.2) * (m.1 + m.1 - 2 * a.1) := by unfold gm_X; grind
    rw [this, m1, m2]; unfold gm_X; grind
  have f2 : 2 * gm_X e c m = gm_X a e c := by
    have : 2 * gm_X e c m = (c.1 - e.1) * (m.2 + m.2 - 2 * e.2) - (c.2 - e.2) * (m.1 + m.1 - 2 * e.1) := by unfold gm_X; grind
    rw [this, m1, m2]; unfold gm_X; grind
  have f3 : gm_X c a m = 0 := by have := gm_X3 a e c m; omega
  have hin : gm_in a e c m := by unfold gm_in; omega
  have hK3 : ∀ f, f ∈ gm_E c (R ++ [a]) → gm_J e m f.1 f.2 = 0 := fun f hf => gm_K3 hD2 (gm_aw hS2 hR2 hE2 hf) hin (by omega) (by omega)
  have g1 := gm_mv0 hK3
  -- the middle of the new side is on no other side
  have hno : ∀ f, f ∈ gm_E c (R ++ [a]) → ¬ gm_on f.1 f.2 m := by
    intro f hf ho
    have hpq : f.1 ≠ f.2 := hS2.1 f (List.mem_cons_of_mem _ (List.mem_cons_of_mem _ hf))
    obtain ⟨l, k, hl, hk, h0, w1, w2⟩ := gm_on_wt hpq ho
    have hw := gm_aw hS2 hR2 hE2 hf
    have x0 := gm_X0 a e
    have x1 := gm_X0 e c
    rcases gm_K1 hD2 hw hl hk h0 (by
      have t := fun g h => gm_mt_X (p := f.1) (q := f.2) (r := m) (s := m) (l := l) (m := k) (n := l + k) (k := 0) (by omega) (by omega) (by omega) g h
      rw [t a e, t e c, t c a, f3]
      simp only [Int.zero_mul, Int.add_zero, Int.mul_zero]
      have s1 := gm_sgt h0 (gm_X a e m)
      have s2 := gm_sgt h0 (gm_X e c m)
      omega) with ⟨g, g'⟩ | ⟨g, g'⟩
    · subst g
      have hk0 : k ≠ 0 := by omega
      have : a = m := by
        rw [← g']
        exact (Prod.ext (Int.eq_of_mul_eq_mul_left hk0 (by grind)) (Int.eq_of_mul_eq_mul_left hk0 (by grind))).symm
      rw [← this, x0.1] at f1
      omega
    · subst g
      have hk0 : l ≠ 0 := by omega
      have : c = m := by
        rw [← g']
        exact (Prod.ext (Int.eq_of_mul_eq_mul_left hk0 (by grind)) (Int.eq_of_mul_eq_mul_left hk0 (by grind))).symm
      rw [← this, x1.2.1] at f2
      omega
  generalize hv : (m.1 - e.1, m.2 - e.2) = v
  obtain ⟨N, hN, hfar⟩ := gm_ev (gm_E c (R ++ [a])) (fun f hf => gm_near (hno f hf) v)
  have hfar := hfar N (Int.le_refl N)
  generalize hz : (N * m.1 + v.1, N * m.2 + v.2) = z at hfar
  have hmap : gm_E (gm_c N c) (R.map (gm_c N) ++ [gm_c N a]) = (gm_E c (R ++ [a])).map (gm_ce N) := by
    rw [← gm_E_map, List.map_append]; rfl
  have hJ0 : ∀ f, f ∈ gm_E (gm_c N c) (R.map (gm_c N) ++ [gm_c N a]) → gm_J (gm_c N m) z f.1 f.2 = 0 ∧ ¬ gm_on f.1 f.2 z := by
    intro f hf
    rw [hmap] at hf
    obtain ⟨g, hg, rfl⟩ := List.mem_map.mp hf
    exact hfar g hg
  have g2 : gm_w (gm_C (gm_c N a :: gm_c N c :: R.map (gm_c N))) (gm_c N m) = gm_w (gm_C (gm_c N a :: gm_c N c :: R.map (gm_c N))) z + gm_J (gm_c N m) z (gm_c N a) (gm_c N c) := gm_mv0 (fun f hf => (hJ0 f hf).1)
  have g3 : gm_w (gm_C (gm_c N a :: gm_c N c :: R.map (gm_c N))) (gm_c N m) = gm_w (gm_C (a :: c :: R)) m := gm_w_c hN (a :: c :: R) m
  have hj := hJn2 N hN
  have z1 : z.1 = N * m.1 + (m.1 - e.1) := by rw [← hz, ← hv]
  have z2 : z.2 = N * m.2 + (m.2 - e.2) := by rw [← hz, ← hv]
  -- the signs at the new side
  have s1 : gm_X e m a = gm_X a e m := gm_Xrot a e m
  have s2 : gm_X e m c = - gm_X e c m := by unfold gm_X; grind
  have s3 : gm_X (gm_c N m) z (gm_c N a) = N * gm_X a e m := by
    have : gm_X (gm_c N m) z (gm_c N a) = (z.1 - N * m.1) * (N * a.2 - N * m.2) - (z.2 - N * m.2) * (N * a.1 - N * m.1) := rfl
    rw [this, z1, z2]; unfold gm_X; grind
  have s4 : gm_X (gm_c N m) z (gm_c N c) = - (N * gm_X e c m) := by
    have : gm_X (gm_c N m) z (gm_c N c) = (z.1 - N * m.1) * (N * c.2 - N * m.2) - (z.2 - N * m.2) * (N * c.1 - N * m.1) := rfl
    rw [this, z1, z2]; unfold gm_X; grind
  have s5 : gm_X a c e = - gm_X a e c := by unfold gm_X; grind
  have s6 : gm_X (gm_c N a) (gm_c N c) z = N * gm_X a e c := by
    have e0 : gm_X a c m = 0 := by rw [gm_Xswap c a m, f3]; rfl
    have : gm_X (gm_c N a) (gm_c N c) z = (N * c.1 - N * a.1) * (z.2 - N * a.2) - (N * c.2 - N * a.2) * (z.1 - N * a.1) := rfl
    rw [this, z1, z2]
    have : (N * c.1 - N * a.1) * (N * m.2 + (m.2 - e.2) - N * a.2) - (N * c.2 - N * a.2) * (N * m.1 + (m.1 - e.1) - N * a.1) = N * ((N + 1) * gm_X a c m - gm_X a c e) := by unfold gm_X; grind
    rw [this, e0, s5]; grind
  have n1 := gm_sgt hN (gm_X a e m)
  have n2 := gm_sgt hN (gm_X e c m)
  have n3 := gm_sgt hN (gm_X a e c)
  have j1 : gm_J e m a c = (if gm_tp a c e then 1 else 0) - (if gm_tp a c m then 1 else 0) := by
    refine gm_J_of ?_
    rw [s1, s2]
    clear hJn2 hK3 hno hfar hJ0 hj hin g1 g2 g3
    omega
  have j2 : gm_J (gm_c N m) z (gm_c N a) (gm_c N c) = (if gm_tp a c m then 1 else 0) - (if gm_tp (gm_c N a) (gm_c N c) z then 1 else 0) := by
    rw [← gm_ifc (gm_ctp hN a c m)]
    refine gm_J_of ?_
    rw [s3, s4]
    clear hJn2 hK3 hno hfar hJ0 hj hin g1 g2 g3
    omega
  have hw' : gm_w (gm_C (gm_c N a :: gm_c N c :: R.map (gm_c N))) z = gm_u (gm_X a e c) := by
    have t1 : (if gm_tp a c e then (1 : Int) else 0) - (if gm_tp (gm_c N a) (gm_c N c) z then 1 else 0) = - gm_u (gm_X a e c) := by
      unfold gm_tp gm_u
      rw [s5, s6]
      rcases Int.lt_or_le 0 (gm_X a e c) with h | h
      · rw [if_neg (by omega), if_pos (by omega), if_pos h]; rfl
      · rw [if_pos (by omega), if_neg (by omega), if_neg (by omega)]; rfl
    omega
  have hnr : ∀ f, f ∈ gm_C (gm_c N a :: gm_c N c :: R.map (gm_c N)) → ¬ gm_on f.1 f.2 z := by
    intro f hf
    rw [gm_C2] at hf
    rcases List.mem_cons.mp hf with h | h
    · rw [h]
      rintro ⟨h1, -⟩
      have : gm_X (gm_c N a) (gm_c N c) z = 0 := h1
      omega
    · exact (hJ0 f h).2
  have eu : gm_u (gm_ar (gm_C (gm_c N a :: gm_c N c :: R.map (gm_c N)))) = gm_u (gm_ar (gm_C (a :: c :: R))) := by
    have : gm_ar (gm_C (gm_c N a :: gm_c N c :: R.map (gm_c N))) = N * N * gm_ar (gm_C (a :: c :: R)) := gm_ar_c N (a :: c :: R)
    rw [this, gm_u_mul (Int.mul_pos hN hN)]
  have hu := gm_u_ne (gm_X a e c)
  rcases hj.2 z hnr with h | h
  · exact absurd (hw'.symm.trans h) hu
  · have h' : gm_w (gm_C (gm_c N a :: gm_c N c :: R.map (gm_c N))) z = gm_u (gm_ar (gm_C (gm_c N a :: gm_c N c :: R.map (gm_c N)))) := h
    rw [eu, hw'] at h'
    exact h'.symm
theorem gm_ar_cut (a e c : Int × Int) (R : List (Int × Int)) : gm_ar (gm_C (a :: e :: c :: R)) = gm_ar (gm_C (a :: c :: R)) + gm_X a e c := by
  rw [gm_C3, gm_C2]
  show (a.1 * e.2 - a.2 * e.1) + ((e.1 * c.2 - e.2 * c.1) + gm_sm _ (gm_E c (R ++ [a]))) = (a.1 * c.2 - a.2 * c.1) + gm_sm _ (gm_E c (R ++ [a])) + gm_X a e c
  unfold gm_X
  grind
theorem gm_on_in {a e c z : Int × Int} (hD : gm_X a e c ≠ 0) (h : gm_on a c z) : gm_in a e c z := by
  obtain ⟨l, m, hl, hm, h0, w1, w2⟩ := gm_on_wt (gm_D_ne hD).2.2 h
  have t := fun g h => gm_mt_X (p := a) (q := c) (r := z) (s := z) (l := l) (m := m) (n := l + m) (k := 0) (by omega) (by omega) (by omega) g h
  have t1 := t a e
  have t2 := t e c
  have t3 := t c a
  rw [(gm_X0 a e).1] at t1
  rw [(gm_X0 e c).2.1, (gm_Xrot a e c : gm_X e c a = gm_X a e c)] at t2
  rw [(gm_X0 c a).2.1, (gm_X0 c a).1] at t3
  have s1 := gm_sgt h0 (gm_X a e z)
  have s2 := gm_sgt h0 (gm_X e c z)
  have s3 := gm_sgt h0 (gm_X c a z)
  have p1 : 0 < gm_X a e c → 0 ≤ l * gm_X a e c ∧ 0 ≤ m * gm_X a e c := fun h => ⟨Int.mul_nonneg hl (by omega), Int.mul_nonneg hm (by omega)⟩
  have p2 : gm_X a e c < 0 → l * gm_X a e c ≤ 0 ∧ m * gm_X a e c ≤ 0 := fun h => ⟨Int.mul_nonpos_of_nonneg_of_nonpos hl (by omega), Int.mul_nonpos_of_nonneg_of_nonpos hm (by omega)⟩
  simp only [Int.mul_zero, Int.zero_mul, Int.add_zero, Int.zero_add] at t1 t2 t3
  unfold gm_in
  omega
/-- with what is left, the whole -/
theorem gm_EJ {a e c : Int × Int} {R : List (Int × Int)} (hS : gm_ok (gm_C (a :: e :: c :: R))) (hR : R ≠ []) (hD : gm_X a e c ≠ 0) (hE : ∀ k, k ∈ R → ¬ gm_in a e c k) (hw : gm_w (gm_C (a :: c :: R)) e = 0) (hJn : ∀ N : Int, 0 < N → gm_jn (gm_C ((a :: c :: R).map (gm_c N)))) : gm_jn (gm_C (a :: e :: c :: R)) ∧ gm_u (gm_ar (gm_C (a :: e :: c :: R))) = gm_u (gm_X a e c) := by
  have hsg := gm_sign hS hR hD hE hw hJn
  have hJ1 : gm_jn (gm_C (a :: c :: R)) := by
    have h := hJn 1 (by omega)
    have e1 : (a :: c :: R).map (gm_c 1) = a :: c :: R := by
      have : ∀ p : Int × Int, gm_c 1 p = p := fun p => by unfold gm_c; rw [Int.one_mul, Int.one_mul]
      rw [List.map_congr_left (fun p _ => this p), List.map_id']
    rw [e1] at h
    exact h
  have har : gm_ar (gm_C (a :: e :: c :: R)) ≠ 0 ∧ gm_u (gm_ar (gm_C (a :: e :: c :: R))) = gm_u (gm_X a e c) := by
    rw [gm_ar_cut]
    have := hJ1.1
    exact gm_u_add hJ1.1 hD hsg
  refine ⟨⟨har.1, fun z hz => ?_⟩, har.2⟩
  rw [har.2]
  have m1 : (a, e) ∈ gm_C (a :: e :: c :: R) := List.mem_cons_self
  have m2 : (e, c) ∈ gm_C (a :: e :: c :: R) := List.mem_cons_of_mem _ List.mem_cons_self
  by_cases hin : gm_in a e c z
  · refine Or.inr (gm_ear_in hS hR hD hE hw hin ?_ ?_)
    · intro h; exact hz _ m1 (gm_in_on hD hin h)
    · intro h
      exact hz _ m2 (gm_in_on (c := a) (by rw [gm_Xrot a e c]; exact hD) (gm_in_rot.mpr hin) h)
  · rw [gm_ear_out hD hin, ← hsg]
    refine hJ1.2 z (fun f hf => ?_)
    rw [gm_C2] at hf
    rcases List.mem_cons.mp hf with h | h
    · rw [h]
      exact fun ho => hin (gm_on_in hD ho)
    · exact hz f (List.mem_cons_of_mem _ (List.mem_cons_of_mem _ h))
end RZG10
