/-! part 97za14: simple polygons: what is left -/
section RZG14
/-- an ear's corner is outside of what is left -/
theorem gm_w0 {a e c : Int × Int} {R : List (Int × Int)} (hS : gm_ok (gm_C (a :: e :: c :: R))) (hR : R ≠ []) (hD : gm_X a e c ≠ 0) (hE : ∀ k, k ∈ R → ¬ gm_in a e c k) (hu : gm_u (gm_ar (gm_C (a :: e :: c :: R))) = gm_u (gm_X a e c)) : gm_w (gm_C (a :: c :: R)) e = 0 := by
  have okQ := gm_cut hS hR hD hE
  have lR : 1 ≤ R.length := by
    cases R with
    | nil => exact absurd rfl hR
    | cons r R => simp only [List.length_cons]; omega
  have l3 : 3 ≤ (a :: c :: R).length := by simp only [List.length_cons]; omega
  have hne := gm_D_ne hD
  -- e is on no side of what is left
  have hoff : ∀ f, f ∈ gm_C (a :: c :: R) → ¬ gm_on f.1 f.2 e := by
    intro f hf ho
    rw [gm_C2] at hf
    rcases List.mem_cons.mp hf with h | h
    · rw [h] at ho
      apply hD
      have := ho.1
      have e1 : gm_X a c e = - gm_X a e c := by unfold gm_X; grind
      simp only at this
      omega
    · have hN := gm_ok_nodup hS
      rw [List.nodup_cons, List.nodup_cons] at hN
      obtain ⟨m1, m2⟩ := gm_E_mem R h
      have hfE : (f.1, f.2) ∈ gm_C (a :: e :: c :: R) := by rw [gm_C3]; exact List.mem_cons_of_mem _ (List.mem_cons_of_mem _ h)
      rcases gm_CO hS (show (e, c) ∈ gm_C (a :: e :: c :: R) from List.mem_cons_of_mem _ List.mem_cons_self) hfE ho with h | h
      · rcases m1 with m | m
        · exact hne.2.1 (h.trans m)
        · exact hN.2.1 (by rw [h]; exact List.mem_cons_of_mem _ m)
      · rcases m2 with m | m
        · exact hN.2.1 (by rw [h]; exact List.mem_cons_of_mem _ m)
        · exact hne.1 (h.trans m).symm
  have hJQ := (gm_main _ _ (Nat.le_refl _) l3 okQ).1
  have hJP := (gm_main _ _ (Nat.le_refl _) (show 3 ≤ (a :: e :: c :: R).length by simp only [List.length_cons]; omega) hS).1
  rcases hJQ.2 e hoff with h | h
  · exact h
  · exfalso
    -- a place near e, out of the ear
    obtain ⟨N, hN, hfar⟩ := gm_ev (gm_C (a :: c :: R)) (fun f hf => gm_near (hoff f hf) (2 * e.1 - a.1 - c.1, 2 * e.2 - a.2 - c.2))
    have hfar := hfar N (Int.le_refl N)
    generalize hz : (N * e.1 + (2 * e.1 - a.1 - c.1), N * e.2 + (2 * e.2 - a.2 - c.2)) = z at hfar
    have hmv := gm_mv ((a :: c :: R).map (gm_c N)) (gm_c N e) z
    rw [gm_sm_zero, gm_w_c hN, h] at hmv
    · have z1 : z.1 = N * e.1 + (2 * e.1 - a.1 - c.1) := by rw [← hz]
      have z2 : z.2 = N * e.2 + (2 * e.2 - a.2 - c.2) := by rw [← hz]
      have s1 : gm_X (gm_c N a) (gm_c N e) z = - (N * gm_X a e c) := by
        have : gm_X (gm_c N a) (gm_c N e) z = (N * e.1 - N * a.1) * (z.2 - N * a.2) - (N * e.2 - N * a.2) * (z.1 - N * a.1) := rfl
        rw [this, z1, z2]; unfold gm_X; grind
      have s2 : gm_X (gm_c N e) (gm_c N c) z = - (N * gm_X a e c) := by
        have : gm_X (gm_c N e) (gm_c N c) z = (N * c.1 - N * e.1) * (z.2 - N * e.2) - (N * c.2 - N * e.2) * (z.1 - N * e.1) := rfl
        rw [this, z1, z2]; unfold gm_X; grind
      have sN := gm_sgt hN (gm_X a e c)
      have hD' : gm_X (gm_c N a) (gm_c N e) (gm_c N c) ≠ 0 := by
        have := gm_csg hN a e c
        omega
      have hs3 := gm_X3 (gm_c N a) (gm_c N e) (gm_c N c) z
      have sD := gm_csg hN a e c
      have hout : ¬ gm_in (gm_c N a) (gm_c N e) (gm_c N c) z := by
        rw [s1, s2] at hs3
        unfold gm_in
        rw [s1, s2]
        omega
      have hSN := gm_ok_c hN hS
      have hJN := (gm_main _ _ (Nat.le_refl _) (show 3 ≤ ((a :: e :: c :: R).map (gm_c N)).length by rw [List.length_map]; simp only [List.length_cons]; omega) hSN).1
      have hw := gm_ear_out (R := R.map (gm_c N)) hD' hout
      have hrim : ∀ f, f ∈ gm_C ((a :: e :: c :: R).map (gm_c N)) → ¬ gm_on f.1 f.2 z := by
        intro f hf
        rw [gm_C_map] at hf
        obtain ⟨g, hg, rfl⟩ := List.mem_map.mp hf
        rw [gm_C3] at hg
        rcases List.mem_cons.mp hg with h | h
        · rw [h]
          intro ho
          have : gm_X (gm_c N a) (gm_c N e) z = 0 := ho.1
          omega
        · rcases List.mem_cons.mp h with h | h
          · rw [h]
            intro ho
            have : gm_X (gm_c N e) (gm_c N c) z = 0 := ho.1
            omega
          · exact (hfar g (by rw [gm_C2]; exact List.mem_cons_of_mem _ h)).2
      have hv := hJN.2 z hrim
      have eu : gm_u (gm_ar (gm_C ((a :: e :: c :: R).map (gm_c N)))) = gm_u (gm_X a e c) := by
        rw [gm_ar_c, gm_u_mul (Int.mul_pos hN hN)]; exact hu
      rw [eu] at hv
      have hw' : gm_w (gm_C ((a :: e :: c :: R).map (gm_c N))) z = gm_w (gm_C ((a :: c :: R).map (gm_c N))) z := hw
      rw [hw'] at hv
      have huQ := gm_u_ne (gm_ar (gm_C (a :: c :: R)))
      -- in the ear the sides of the whole go round x + 1 times
      have hj2 : gm_u (gm_ar (gm_C (a :: c :: R))) = gm_u (gm_X a e c) := by
        rcases hv with hv | hv
        · omega
        · omega
      -- then in the ear: twice
      have hin3 : gm_in (gm_c 3 a) (gm_c 3 e) (gm_c 3 c) (a.1 + e.1 + c.1, a.2 + e.2 + c.2) ∧ gm_X (gm_c 3 a) (gm_c 3 e) (a.1 + e.1 + c.1, a.2 + e.2 + c.2) ≠ 0 ∧ gm_X (gm_c 3 e) (gm_c 3 c) (a.1 + e.1 + c.1, a.2 + e.2 + c.2) ≠ 0 ∧ gm_X (gm_c 3 c) (gm_c 3 a) (a.1 + e.1 + c.1, a.2 + e.2 + c.2) ≠ 0 := by
        have t1 : gm_X (gm_c 3 a) (gm_c 3 e) (a.1 + e.1 + c.1, a.2 + e.2 + c.2) = 3 * gm_X a e c := by unfold gm_X gm_c; simp only; grind
        have t2 : gm_X (gm_c 3 e) (gm_c 3 c) (a.1 + e.1 + c.1, a.2 + e.2 + c.2) = 3 * gm_X a e c := by unfold gm_X gm_c; simp only; grind
        have t3 : gm_X (gm_c 3 c) (gm_c 3 a) (a.1 + e.1 + c.1, a.2 + e.2 + c.2) = 3 * gm_X a e c := by unfold gm_X gm_c; simp only; grind
        unfold gm_in
        rw [t1, t2, t3]
        omega
      generalize (a.1 + e.1 + c.1, a.2 + e.2 + c.2) = g at hin3
      have h3 : (0 : Int) < 3 := by omega
      have hS3 := gm_ok_c h3 hS
      have hE3 : ∀ k, k ∈ R.map (gm_c 3) → ¬ gm_in (gm_c 3 a) (gm_c 3 e) (gm_c 3 c) k := by
        intro k hk
        obtain ⟨k', hk', rfl⟩ := List.mem_map.mp hk
        exact fun h => hE k' hk' ((gm_cin h3 _ _ _ _).mp h)
      have hR3 : R.map (gm_c 3) ≠ [] := fun h => hR (List.map_eq_nil_iff.mp h)
      have hD3 : gm_X (gm_c 3 a) (gm_c 3 e) (gm_c 3 c) ≠ 0 := by have := gm_csg h3 a e c; omega
      have k1 := gm_mv0 (R := R.map (gm_c 3)) (fun f hf => gm_K3 hD3 (gm_aw hS3 hR3 hE3 hf) hin3.1 hin3.2.1 hin3.2.2.1)
      have k2 := gm_tloc hD3 hin3.1 hin3.2.1 hin3.2.2.1
      have k3 := gm_w_cut (gm_c 3 a) (gm_c 3 e) (gm_c 3 c) (R.map (gm_c 3)) g
      have k4 : gm_w (gm_C (gm_c 3 a :: gm_c 3 c :: R.map (gm_c 3))) (gm_c 3 e) = gm_w (gm_C (a :: c :: R)) e := gm_w_c h3 (a :: c :: R) e
      have k5 : gm_u (gm_X (gm_c 3 a) (gm_c 3 e) (gm_c 3 c)) = gm_u (gm_X a e c) := by rw [gm_cX, gm_u_mul (by omega)]
      have k6 : gm_w (gm_C (gm_c 3 a :: gm_c 3 e :: gm_c 3 c :: R.map (gm_c 3))) g = gm_u (gm_X a e c) + gm_u (gm_X a e c) := by omega
      have hJ3 := (gm_main _ _ (Nat.le_refl _) (show 3 ≤ ((a :: e :: c :: R).map (gm_c 3)).length by rw [List.length_map]; simp only [List.length_cons]; omega) hS3).1
      have eu3 : gm_u (gm_ar (gm_C ((a :: e :: c :: R).map (gm_c 3)))) = gm_u (gm_X a e c) := by
        rw [gm_ar_c, gm_u_mul (by omega)]; exact hu
      have hD0 := gm_u_ne (gm_X a e c)
      have hw3 := hJ3.2 g (by
        intro f hf ho
        rw [List.map_cons, List.map_cons, List.map_cons, gm_C3] at hf
        rcases List.mem_cons.mp hf with h | h
        · rw [h] at ho; exact hin3.2.1 ho.1
        · rcases List.mem_cons.mp h with h | h
          · rw [h] at ho; exact hin3.2.2.1 ho.1
          · have hpq : f.1 ≠ f.2 := hS3.1 f (List.mem_cons_of_mem _ (List.mem_cons_of_mem _ h))
            obtain ⟨l, m, hl, hm, h0, w1, w2⟩ := gm_on_wt hpq ho
            have t := fun g' h' => gm_mt_X (p := f.1) (q := f.2) (r := g) (s := g) (l := l) (m := m) (n := l + m) (k := 0) (by omega) (by omega) (by omega) g' h'
            have x2 := gm_X0 (gm_c 3 c) (gm_c 3 a)
            rcases gm_K1 hD3 (gm_aw hS3 hR3 hE3 h) hl hm h0 (by
              rw [t, t, t]
              simp only [Int.zero_mul, Int.add_zero]
              have s1 := gm_sgt h0 (gm_X (gm_c 3 a) (gm_c 3 e) g)
              have s2 := gm_sgt h0 (gm_X (gm_c 3 e) (gm_c 3 c) g)
              have s3 := gm_sgt h0 (gm_X (gm_c 3 c) (gm_c 3 a) g)
              have := hin3.1
              unfold gm_in at this
              omega) with ⟨g1, g2⟩ | ⟨g1, g2⟩
            · have t3 := t (gm_c 3 c) (gm_c 3 a)
              rw [g1, g2, x2.2.1] at t3
              simp only [Int.zero_mul, Int.mul_zero, Int.add_zero, Int.zero_add] at t3
              rcases Int.mul_eq_zero.mp t3.symm with h | h
              · omega
              · exact hin3.2.2.2 h
            · have t3 := t (gm_c 3 c) (gm_c 3 a)
              rw [g1, g2, x2.1] at t3
              simp only [Int.zero_mul, Int.mul_zero, Int.add_zero, Int.zero_add] at t3
              rcases Int.mul_eq_zero.mp t3.symm with h | h
              · omega
              · exact hin3.2.2.2 h)
      rw [eu3] at hw3
      have hw3' : gm_w (gm_C (gm_c 3 a :: gm_c 3 e :: gm_c 3 c :: R.map (gm_c 3))) g = 0 ∨ gm_w (gm_C (gm_c 3 a :: gm_c 3 e :: gm_c 3 c :: R.map (gm_c 3))) g = gm_u (gm_X a e c) := hw3
      omega
    · intro f hf
      rw [gm_C_map] at hf
      obtain ⟨g, hg, rfl⟩ := List.mem_map.mp hf
      exact (hfar g hg).1
end RZG14
