/-! part 97za08: simple polygons: ears -/
section RZG08
theorem gm_C3 (a e c : Int × Int) (R : List (Int × Int)) : gm_C (a :: e :: c :: R) = (a, e) :: (e, c) :: gm_E c (R ++ [a]) := rfl
theorem gm_C2 (a c : Int × Int) (R : List (Int × Int)) : gm_C (a :: c :: R) = (a, c) :: gm_E c (R ++ [a]) := rfl
theorem gm_aw {a e c : Int × Int} {R : List (Int × Int)} (hS : gm_ok (gm_C (a :: e :: c :: R))) (hR : R ≠ []) (hE : ∀ k, k ∈ R → ¬ gm_in a e c k) {f : (Int × Int) × (Int × Int)} (hf : f ∈ gm_E c (R ++ [a])) : gm_away a e c f.1 f.2 := by
  have hN := gm_ok_nodup hS
  rw [List.nodup_cons, List.nodup_cons, List.nodup_cons] at hN
  obtain ⟨n1, n2, n3, n4⟩ := hN
  have hm := gm_E_mem R hf
  rw [gm_C3] at hS
  have fE : f ∈ (a, e) :: (e, c) :: gm_E c (R ++ [a]) := List.mem_cons_of_mem _ (List.mem_cons_of_mem _ hf)
  have m1 : (a, e) ∈ (a, e) :: (e, c) :: gm_E c (R ++ [a]) := List.mem_cons_self
  have m2 : (e, c) ∈ (a, e) :: (e, c) :: gm_E c (R ++ [a]) := List.mem_cons_of_mem _ List.mem_cons_self
  have f1 : f.1 ≠ a ∧ f.1 ≠ e := by
    rcases hm.1 with h | h
    · exact ⟨fun g => n1 (by rw [← g, h]; exact List.mem_cons_of_mem _ List.mem_cons_self), fun g => n2 (by rw [← g, h]; exact List.mem_cons_self)⟩
    · exact ⟨fun g => n1 (by rw [← g]; exact List.mem_cons_of_mem _ (List.mem_cons_of_mem _ h)), fun g => n2 (by rw [← g]; exact List.mem_cons_of_mem _ h)⟩
  have f2 : f.2 ≠ e ∧ f.2 ≠ c := by
    rcases hm.2 with h | h
    · exact ⟨fun g => n2 (by rw [← g]; exact List.mem_cons_of_mem _ h), fun g => n3 (by rw [← g]; exact h)⟩
    · exact ⟨fun g => n1 (by rw [← h, g]; exact List.mem_cons_self), fun g => n1 (by rw [← h, g]; exact List.mem_cons_of_mem _ List.mem_cons_self)⟩
  refine ⟨?_, ?_, ?_, ?_, ?_⟩
  · rcases hm.1 with h | h
    · exact Or.inr h
    · exact Or.inl (hE _ h)
  · rcases hm.2 with h | h
    · exact Or.inl (hE _ h)
    · exact Or.inr h
  · rintro ⟨h1, h2⟩
    cases R with
    | nil => exact hR rfl
    | cons r R =>
      have hf' : f ∈ (c, r) :: gm_E r (R ++ [a]) := hf
      rcases List.mem_cons.mp hf' with h3 | h3
      · rw [h3] at h2
        exact n1 (by rw [← (show r = a from h2)]; exact List.mem_cons_of_mem _ (List.mem_cons_of_mem _ List.mem_cons_self))
      · rcases (gm_E_mem R h3).1 with h4 | h4
        · exact n3 (by rw [← h1, h4]; exact List.mem_cons_self)
        · exact n3 (by rw [← h1]; exact List.mem_cons_of_mem _ h4)
  · rcases gm_pw hS.2 fE m1 (fun h => f1.1 (by rw [h])) with h | h | h
    · exact Or.inl h.1
    · exact absurd h.1.symm f1.2
    · exact Or.inr h
  · rcases gm_pw hS.2 fE m2 (fun h => f1.2 (by rw [h])) with h | h | h
    · exact absurd h.1 f2.1
    · exact Or.inl h.1.symm
    · exact Or.inr h
theorem gm_D_ne {a e c : Int × Int} (hD : gm_X a e c ≠ 0) : a ≠ e ∧ e ≠ c ∧ a ≠ c := by
  refine ⟨?_, ?_, ?_⟩
  · rintro rfl; exact hD (gm_X0 a c).2.2
  · rintro rfl; exact hD (gm_X0 a e).2.1
  · rintro rfl; exact hD (gm_X0 a e).1
/-- the new side goes well with the others -/
theorem gm_K2 {a e c p q : Int × Int} (hD : gm_X a e c ≠ 0) (hpq : p ≠ q) (hw : gm_away a e c p q) : gm_o2 (a, c) (p, q) := by
  have hne := gm_D_ne hD
  have x0 := gm_X0 a e
  have x1 := gm_X0 e c
  have x2 := gm_X0 c a
  have r2 : gm_X c a e = gm_X a e c := (gm_Xrot c a e).symm
  have r1 : gm_X e c a = gm_X a e c := gm_Xrot a e c
  have sg : ∀ {x y : Int}, 0 ≤ x → 0 ≤ y → (0 ≤ x * gm_X a e c ∧ 0 ≤ y * gm_X a e c ∧ (0 : Int) ≤ 0) ∨ (x * gm_X a e c ≤ 0 ∧ y * gm_X a e c ≤ 0 ∧ (0 : Int) ≤ 0) := by
    intro x y hx hy
    rcases Int.le_total 0 (gm_X a e c) with h | h
    · exact Or.inl ⟨Int.mul_nonneg hx h, Int.mul_nonneg hy h, Int.le_refl 0⟩
    · exact Or.inr ⟨Int.mul_nonpos_of_nonneg_of_nonpos hx h, Int.mul_nonpos_of_nonneg_of_nonpos hy h, Int.le_refl 0⟩
  -- a place of the new side on the other one
  have key : ∀ {l m n k : Int}, 0 ≤ l → 0 ≤ m → 0 ≤ n → 0 ≤ k → 0 < l + m → l + m = n + k → l * p.1 + m * q.1 = n * a.1 + k * c.1 → l * p.2 + m * q.2 = n * a.2 + k * c.2 → (l = 0 ∧ q = a) ∨ (m = 0 ∧ p = c) := by
    intro l m n k hl hm hn hk h0 h1 h2 h3
    refine gm_K1 hD hw hl hm h0 ?_
    rw [gm_mt_X h1 h2 h3 a e, gm_mt_X h1 h2 h3 e c, gm_mt_X h1 h2 h3 c a, x0.1, x1.2.1, x2.1, x2.2.1, r1]
    simp only [Int.mul_zero, Int.zero_add, Int.add_zero]
    rcases sg hk hn with ⟨g1, g2, g3⟩ | ⟨g1, g2, g3⟩
    · exact Or.inl ⟨g1, g2, g3⟩
    · exact Or.inr ⟨g1, g2, g3⟩
  by_cases hpc : p = c
  · refine Or.inl ⟨hpc.symm, ?_⟩
    intro hf
    have hf' : gm_fold a c q := hf
    have hqa : q ≠ a := fun h => hw.2.2.1 ⟨hpc, h⟩
    rcases gm_ray hf' with h | h
    · obtain ⟨l, m, hl, hm, h0, w1, w2⟩ := gm_on_wt (fun h => hpq (hpc.trans h)) h
      rcases key (l := l) (m := m) (n := l + m) (k := 0) hl hm (by omega) (by omega) h0 (by omega) (by rw [hpc]; omega) (by rw [hpc]; omega) with ⟨-, g⟩ | ⟨g, -⟩
      · exact hqa g
      · subst g
        have hl0 : l ≠ 0 := by omega
        exact hne.2.2 (Prod.ext (Int.eq_of_mul_eq_mul_left hl0 (by grind)) (Int.eq_of_mul_eq_mul_left hl0 (by grind)))
    · obtain ⟨l, m, hl, hm, h0, w1, w2⟩ := gm_on_wt hne.2.2.symm h
      rcases key (l := 0) (m := l + m) (n := m) (k := l) (by omega) (by omega) hm hl (by omega) (by omega) (by omega) (by omega) with ⟨-, g⟩ | ⟨g, -⟩
      · exact hqa g
      · omega
  · by_cases hqa : q = a
    · refine Or.inr (Or.inl ⟨hqa, ?_⟩)
      intro hf
      have hf' : gm_fold p q c := hf
      rw [hqa] at hf'
      rcases gm_ray hf' with h | h
      · obtain ⟨l, m, hl, hm, h0, w1, w2⟩ := gm_on_wt hne.2.2 h
        rcases key (l := l + m) (m := 0) (n := l) (k := m) (by omega) (by omega) hl hm (by omega) (by omega) (by omega) (by omega) with ⟨g, -⟩ | ⟨-, g⟩
        · omega
        · exact hpc g
      · obtain ⟨l, m, hl, hm, h0, w1, w2⟩ := gm_on_wt (fun h => hpq (hqa.trans h).symm) h
        rcases key (l := m) (m := l) (n := 0) (k := l + m) hm hl (by omega) (by omega) (by omega) (by omega) (by rw [hqa]; omega) (by rw [hqa]; omega) with ⟨g, -⟩ | ⟨-, g⟩
        · subst g
          have hl0 : l ≠ 0 := by omega
          exact hne.2.2 (Prod.ext (Int.eq_of_mul_eq_mul_left hl0 (by grind)) (Int.eq_of_mul_eq_mul_left hl0 (by grind))).symm
        · exact hpc g
    · refine Or.inr (Or.inr ?_)
      intro hh
      obtain ⟨l, m, n, k, hl, hm, hn, hk, h0, h1, h2, h3⟩ := gm_hit_mt hpq hne.2.2 (gm_hit_sym.mp hh)
      rcases key hl hm hn hk h0 h1 h2 h3 with ⟨-, g⟩ | ⟨-, g⟩
      · exact hqa g
      · exact hpc g
/-- an ear cut off, a polygon is left -/
theorem gm_cut {a e c : Int × Int} {R : List (Int × Int)} (hS : gm_ok (gm_C (a :: e :: c :: R))) (hR : R ≠ []) (hD : gm_X a e c ≠ 0) (hE : ∀ k, k ∈ R → ¬ gm_in a e c k) : gm_ok (gm_C (a :: c :: R)) := by
  have hS' := hS
  rw [gm_C3] at hS'
  rw [gm_C2]
  obtain ⟨h1, h2⟩ := hS'
  rw [List.pairwise_cons, List.pairwise_cons] at h2
  refine ⟨?_, List.pairwise_cons.mpr ⟨?_, h2.2.2⟩⟩
  · intro f hf
    rcases List.mem_cons.mp hf with h | h
    · rw [h]; exact (gm_D_ne hD).2.2
    · exact h1 f (List.mem_cons_of_mem _ (List.mem_cons_of_mem _ h))
  · intro f hf
    exact gm_K2 hD (h1 f (List.mem_cons_of_mem _ (List.mem_cons_of_mem _ hf))) (gm_aw hS hR hE hf)
def gm_u (D : Int) : Int := if 0 < D then 1 else -1
theorem gm_tp_swap {p q z : Int × Int} (h : p ≠ q) : gm_tp q p z ↔ ¬ gm_tp p q z := by
  obtain ⟨px, py⟩ := p
  obtain ⟨qx, qy⟩ := q
  have e : gm_X (qx, qy) (px, py) z = - gm_X (px, py) (qx, qy) z := gm_Xswap _ _ _
  have : px ≠ qx ∨ py ≠ qy := by
    refine Classical.byContradiction (fun hc => h ?_)
    rw [show px = qx by omega, show py = qy by omega]
  unfold gm_tp
  rw [e]
  simp only
  omega
/-- the two sides of an ear and the new one, seen from in the ear -/
theorem gm_tloc {a e c z : Int × Int} (hD : gm_X a e c ≠ 0) (hz : gm_in a e c z) (z1 : gm_X a e z ≠ 0) (z2 : gm_X e c z ≠ 0) : gm_cr z a e + gm_cr z e c + gm_cr z c a - gm_J e z a c = gm_u (gm_X a e c) := by
  have hne := gm_D_ne hD
  have hs := gm_X3 a e c z
  have e1 : gm_X e z a = gm_X a e z := gm_Xrot a e z
  have e2 : gm_X e z c = - gm_X e c z := by unfold gm_X; grind
  have e3 : gm_X a c e = - gm_X a e c := by unfold gm_X; grind
  have sw : gm_tp a c z ↔ ¬ gm_tp c a z := gm_tp_swap hne.2.2.symm
  unfold gm_u
  rcases Int.lt_or_le 0 (gm_X a e c) with h | h
  · rw [gm_tl_pos h, if_pos h]
    rw [gm_in_pos h] at hz
    have a1 : gm_am e z a := Or.inl (by rw [e1]; omega)
    have a2 : ¬ gm_am e z c := by unfold gm_am; rw [e2]; omega
    have eJ : gm_J e z a c = 0 - (if gm_tp a c z then 1 else 0) := by
      unfold gm_J
      rw [if_neg (fun hi => a2 (hi.mp a1)), if_neg (show ¬ gm_tp a c e by unfold gm_tp; rw [e3]; omega)]
    rw [eJ]
    have t1 : gm_tp a e z := Or.inl (by omega)
    have t2 : gm_tp e c z := Or.inl (by omega)
    by_cases t3 : gm_tp c a z
    · rw [if_pos ⟨t1, t2, t3⟩, if_neg (by rw [sw]; exact fun h => h t3)]; rfl
    · rw [if_neg (fun h => t3 h.2.2), if_pos (sw.mpr t3)]; rfl
  · have h' : 0 < gm_X c e a := by rw [gm_Xm]; omega
    have hh := gm_tl_pos (z := z) h'
    rw [gm_cr_swap z e c, gm_cr_swap z a e, gm_cr_swap z c a] at hh
    have hz' := (gm_in_pos h').mp (gm_in_swap.mpr hz)
    rw [if_neg (by omega)]
    rw [gm_Xswap a e z, gm_Xswap e c z] at hz'
    have g1 : gm_X a e z < 0 := by omega
    have g2 : gm_X e c z < 0 := by omega
    have a1 : ¬ gm_am e z a := by unfold gm_am; rw [e1]; intro hh; omega
    have a2 : gm_am e z c := Or.inl (by rw [e2]; omega)
    have eJ : gm_J e z a c = 1 - (if gm_tp a c z then 1 else 0) := by
      unfold gm_J
      rw [if_neg (fun hi => a1 (hi.mpr a2)), if_pos (show gm_tp a c e from Or.inl (by rw [e3]; omega))]
    rw [eJ]
    have t1 : gm_tp c e z := Or.inl (by rw [gm_Xswap e c z]; omega)
    have t2 : gm_tp e a z := Or.inl (by rw [gm_Xswap a e z]; omega)
    by_cases t3 : gm_tp a c z
    · rw [if_pos ⟨t1, t2, t3⟩] at hh
      rw [if_pos t3]; omega
    · rw [if_neg (fun h => t3 h.2.2)] at hh
      rw [if_neg t3]; omega
/-- out of a triangle -/
theorem gm_tout {a e c z : Int × Int} (hD : gm_X a e c ≠ 0) (hz : ¬ gm_in a e c z) : gm_cr z a e + gm_cr z e c + gm_cr z c a = 0 := by
  rcases Int.lt_or_le 0 (gm_X a e c) with h | h
  · rw [gm_tl_pos h, if_neg]
    rw [gm_in_pos h] at hz
    unfold gm_tp
    omega
  · have h' : 0 < gm_X c e a := by rw [gm_Xm]; omega
    have hh := gm_tl_pos (z := z) h'
    rw [gm_cr_swap z e c, gm_cr_swap z a e, gm_cr_swap z c a, if_neg] at hh
    · omega
    · rw [← gm_in_swap, gm_in_pos h'] at hz
      unfold gm_tp
      omega
theorem gm_w_cut (a e c : Int × Int) (R : List (Int × Int)) (z : Int × Int) : gm_w (gm_C (a :: e :: c :: R)) z = gm_w (gm_C (a :: c :: R)) z + (gm_cr z a e + gm_cr z e c + gm_cr z c a) := by
  rw [gm_C3, gm_C2]
  have := gm_cr_swap z a c
  show gm_cr z a e + (gm_cr z e c + gm_sm (fun e => gm_cr z e.1 e.2) (gm_E c (R ++ [a]))) = gm_cr z a c + gm_sm (fun e => gm_cr z e.1 e.2) (gm_E c (R ++ [a])) + _
  omega
theorem gm_mv0 {a e c z : Int × Int} {R : List (Int × Int)} (hJ : ∀ f, f ∈ gm_E c (R ++ [a]) → gm_J e z f.1 f.2 = 0) : gm_w (gm_C (a :: c :: R)) e = gm_w (gm_C (a :: c :: R)) z + gm_J e z a c := by
  rw [gm_mv (a :: c :: R) e z, gm_C2]
  show _ = _ + gm_J e z a c
  have : gm_sm (fun f => gm_J e z f.1 f.2) ((a, c) :: gm_E c (R ++ [a])) = gm_J e z a c + gm_sm (fun f => gm_J e z f.1 f.2) (gm_E c (R ++ [a])) := rfl
  rw [this, gm_sm_zero hJ]
  omega
/-- in an ear the sides go round once -/
theorem gm_ear_in {a e c z : Int × Int} {R : List (Int × Int)} (hS : gm_ok (gm_C (a :: e :: c :: R))) (hR : R ≠ []) (hD : gm_X a e c ≠ 0) (hE : ∀ k, k ∈ R → ¬ gm_in a e c k) (hw : gm_w (gm_C (a :: c :: R)) e = 0) (hz : gm_in a e c z) (z1 : gm_X a e z ≠ 0) (z2 : gm_X e c z ≠ 0) : gm_w (gm_C (a :: e :: c :: R)) z = gm_u (gm_X a e c) := by
  have h1 := gm_mv0 (R := R) (fun f hf => gm_K3 hD (gm_aw hS hR hE hf) hz z1 z2)
  have h2 := gm_tloc hD hz z1 z2
  rw [gm_w_cut]
  omega
theorem gm_ear_out {a e c z : Int × Int} {R : List (Int × Int)} (hD : gm_X a e c ≠ 0) (hz : ¬ gm_in a e c z) : gm_w (gm_C (a :: e :: c :: R)) z = gm_w (gm_C (a :: c :: R)) z := by
  rw [gm_w_cut, gm_tout hD hz]
  omega
/-- in a triangle on the line of a side is on the side -/
theorem gm_in_on {a e c z : Int × Int} (hD : gm_X a e c ≠ 0) (hz : gm_in a e c z) (z1 : gm_X a e z = 0) : gm_on a e z := by
  have hs := gm_X3 a e c z
  have k1 : gm_X a e c * z.1 = gm_X e c z * a.1 + gm_X c a z * e.1 + gm_X a e z * c.1 := by unfold gm_X; grind
  have k2 : gm_X a e c * z.2 = gm_X e c z * a.2 + gm_X c a z * e.2 + gm_X a e z * c.2 := by unfold gm_X; grind
  unfold gm_in at hz
  rw [z1] at k1 k2 hs hz
  rcases hz with ⟨g1, g2, g3⟩ | ⟨g1, g2, g3⟩
  · refine gm_on_of (l := gm_X e c z) (m := gm_X c a z) (by omega) (by omega) (by omega) ?_ ?_ <;> grind
  · refine gm_on_of (l := - gm_X e c z) (m := - gm_X c a z) (by omega) (by omega) (by omega) ?_ ?_ <;> grind
theorem gm_in_rot {a e c z : Int × Int} : gm_in e c a z ↔ gm_in a e c z := by
  unfold gm_in; omega
end RZG08
