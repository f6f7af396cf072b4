/-! part 97za17: simple polygons: place by place -/
section RZG17
def gm_ob (p q z : Int × Int) : Bool := decide (gm_X p q z = 0 ∧ (min p.1 q.1 ≤ z.1 ∧ z.1 ≤ max p.1 q.1) ∧ (min p.2 q.2 ≤ z.2 ∧ z.2 ≤ max p.2 q.2))
theorem gm_ob_iff {p q z : Int × Int} : gm_ob p q z = true ↔ gm_on p q z := decide_eq_true_iff
def gm_rim (E : List ((Int × Int) × (Int × Int))) (z : Int × Int) : Bool := E.any fun f => gm_ob f.1 f.2 z
theorem gm_rim_iff {E : List ((Int × Int) × (Int × Int))} {z : Int × Int} : gm_rim E z = true ↔ ∃ f, f ∈ E ∧ gm_on f.1 f.2 z := by
  unfold gm_rim
  rw [List.any_eq_true]
  constructor
  · rintro ⟨f, h1, h2⟩; exact ⟨f, h1, gm_ob_iff.mp h2⟩
  · rintro ⟨f, h1, h2⟩; exact ⟨f, h1, gm_ob_iff.mpr h2⟩
/-- 1 on the rim, 2 within, 0 outside -/
def gm_val (E : List ((Int × Int) × (Int × Int))) (z : Int × Int) : Int := if gm_rim E z = true then 1 else if gm_w E z = 0 then 0 else 2
def gm_ri (E : List ((Int × Int) × (Int × Int))) (z : Int × Int) : Int := if gm_rim E z = true then 1 else 0
theorem gm_rim_perm {A B : List ((Int × Int) × (Int × Int))} (h : A.Perm B) (z : Int × Int) : gm_rim A z = gm_rim B z := by
  rw [Bool.eq_iff_iff, gm_rim_iff, gm_rim_iff]
  constructor
  · rintro ⟨f, h1, h2⟩; exact ⟨f, h.mem_iff.mp h1, h2⟩
  · rintro ⟨f, h1, h2⟩; exact ⟨f, h.mem_iff.mpr h1, h2⟩
theorem gm_val_perm {A B : List ((Int × Int) × (Int × Int))} (h : A.Perm B) (z : Int × Int) : gm_val A z = gm_val B z := by
  unfold gm_val
  rw [gm_rim_perm h, gm_w_perm h]
theorem gm_ri_perm {A B : List ((Int × Int) × (Int × Int))} (h : A.Perm B) (z : Int × Int) : gm_ri A z = gm_ri B z := by
  unfold gm_ri
  rw [gm_rim_perm h]
theorem gm_val_r {E : List ((Int × Int) × (Int × Int))} {z : Int × Int} {f : (Int × Int) × (Int × Int)} (hf : f ∈ E) (h : gm_on f.1 f.2 z) : gm_val E z = 1 ∧ gm_ri E z = 1 :=
  ⟨if_pos (gm_rim_iff.mpr ⟨f, hf, h⟩), if_pos (gm_rim_iff.mpr ⟨f, hf, h⟩)⟩
theorem gm_val_n {E : List ((Int × Int) × (Int × Int))} {z : Int × Int} (h : ∀ f, f ∈ E → ¬ gm_on f.1 f.2 z) : gm_val E z = (if gm_w E z = 0 then 0 else 2) ∧ gm_ri E z = 0 := by
  have : ¬ gm_rim E z = true := fun hc => by
    obtain ⟨f, h1, h2⟩ := gm_rim_iff.mp hc
    exact h f h1 h2
  exact ⟨if_neg this, if_neg this⟩
theorem gm_onpath {a e c p q z : Int × Int} (hD : gm_X a e c ≠ 0) (hw : gm_away a e c p q) (hpq : p ≠ q) (hz : gm_in a e c z) (ho : gm_on p q z) : z = a ∨ z = c := by
  obtain ⟨l, m, hl, hm, h0, w1, w2⟩ := gm_on_wt hpq ho
  have t := fun g' h' => gm_mt_X (p := p) (q := q) (r := z) (s := z) (l := l) (m := m) (n := l + m) (k := 0) (by omega) (by omega) (by omega) g' h'
  have s1 := gm_sgt h0 (gm_X a e z)
  have s2 := gm_sgt h0 (gm_X e c z)
  have s3 := gm_sgt h0 (gm_X c a z)
  rcases gm_K1 hD hw hl hm h0 (by
    rw [t, t, t]
    simp only [Int.zero_mul, Int.add_zero]
    unfold gm_in at hz
    omega) with ⟨g1, g2⟩ | ⟨g1, g2⟩
  · subst g1
    have hm0 : m ≠ 0 := by omega
    exact Or.inl (by rw [← g2]; exact Prod.ext (Int.eq_of_mul_eq_mul_left hm0 (by grind)) (Int.eq_of_mul_eq_mul_left hm0 (by grind)))
  · subst g1
    have hl0 : l ≠ 0 := by omega
    exact Or.inr (by rw [← g2]; exact Prod.ext (Int.eq_of_mul_eq_mul_left hl0 (by grind)) (Int.eq_of_mul_eq_mul_left hl0 (by grind)))
theorem gm_K3' {a e c p q z : Int × Int} (hD : gm_X a e c ≠ 0) (hw : gm_away a e c p q) (hz : gm_in a e c z) (za : z ≠ a) (zc : z ≠ c) : gm_J e z p q = 0 := by
  refine Classical.byContradiction (fun hJ => ?_)
  obtain ⟨l, m, n, k, hl, hm, hn, hk, h0, h1, ⟨h2, h3⟩, h4, h5, h6, h7⟩ := gm_J_mt hJ
  have y1 := gm_mt_X h1 h2 h3 a e
  have y2 := gm_mt_X h1 h2 h3 e c
  have y3 := gm_mt_X h1 h2 h3 c a
  have x0 := gm_X0 a e
  have x1 := gm_X0 e c
  have x2 := gm_X0 c a
  have r2 : gm_X c a e = gm_X a e c := (gm_Xrot c a e).symm
  have hs := gm_X3 a e c z
  rw [x0.2.1, Int.mul_zero, Int.zero_add] at y1
  rw [x1.1, Int.mul_zero, Int.zero_add] at y2
  rw [r2] at y3
  have pk : ∀ {x : Int}, 0 ≤ x → 0 ≤ k * x := fun h => Int.mul_nonneg hk h
  have nk : ∀ {x : Int}, x ≤ 0 → k * x ≤ 0 := fun h => Int.mul_nonpos_of_nonneg_of_nonpos hk h
  have pn : ∀ {x : Int}, 0 ≤ x → 0 ≤ n * x := fun h => Int.mul_nonneg hn h
  have nn : ∀ {x : Int}, x ≤ 0 → n * x ≤ 0 := fun h => Int.mul_nonpos_of_nonneg_of_nonpos hn h
  have hkey : (l = 0 ∧ q = a) ∨ (m = 0 ∧ p = c) := by
    refine gm_K1 hD hw hl hm h0 ?_
    rw [y1, y2, y3]
    rcases hz with ⟨g1, g2, g3⟩ | ⟨g1, g2, g3⟩
    · exact Or.inl ⟨pk g1, pk g2, by have := pk g3; have := pn (x := gm_X a e c) (by omega); omega⟩
    · exact Or.inr ⟨nk g1, nk g2, by have := nk g3; have := nn (x := gm_X a e c) (by omega); omega⟩
  have hn0 : l * gm_X c a p + m * gm_X c a q = 0 → n = 0 := by
    intro h
    rw [y3] at h
    have : n * gm_X a e c = 0 := by
      rcases hz with ⟨g1, g2, g3⟩ | ⟨g1, g2, g3⟩
      · have := pk g3; have := pn (x := gm_X a e c) (by omega); omega
      · have := nk g3; have := nn (x := gm_X a e c) (by omega); omega
    rcases Int.mul_eq_zero.mp this with h | h
    · exact h
    · exact absurd h hD
  rcases hkey with ⟨g1, g2⟩ | ⟨g1, g2⟩
  · have hn := hn0 (by rw [g1, g2, x2.2.1]; simp)
    subst hn g1
    have hk0 : k ≠ 0 := by omega
    have e0 : m = k := by omega
    subst e0
    exact za (by rw [← g2]; exact (Prod.ext (Int.eq_of_mul_eq_mul_left hk0 (by grind)) (Int.eq_of_mul_eq_mul_left hk0 (by grind))).symm)
  · have hn := hn0 (by rw [g1, g2, x2.1]; simp)
    subst hn g1
    have hk0 : k ≠ 0 := by omega
    have e0 : l = k := by omega
    subst e0
    exact zc (by rw [← g2]; exact (Prod.ext (Int.eq_of_mul_eq_mul_left hk0 (by grind)) (Int.eq_of_mul_eq_mul_left hk0 (by grind))).symm)
theorem gm_Xf1 (a e c : Int × Int) : gm_X a c e = - gm_X a e c := by unfold gm_X; grind
theorem gm_Xf2 (a e c : Int × Int) : gm_X e a c = - gm_X a e c := by unfold gm_X; grind
theorem gm_on_in1 {a e c z : Int × Int} (hD : gm_X a e c ≠ 0) (h : gm_on a e z) : gm_in a e c z :=
  gm_in_rot.mp (gm_in_swap.mp (gm_on_in (a := a) (e := c) (c := e) (by rw [gm_Xf1]; omega) h))
theorem gm_on_in2 {a e c z : Int × Int} (hD : gm_X a e c ≠ 0) (h : gm_on e c z) : gm_in a e c z :=
  gm_in_rot.mp (gm_in_rot.mp (gm_in_swap.mp (gm_on_in (a := e) (e := a) (c := c) (by rw [gm_Xf2]; omega) h)))
/-- on two lines of a triangle: its corner -/
theorem gm_corner {a e c z : Int × Int} (hD : gm_X a e c ≠ 0) (h1 : gm_X a e z = 0) (h2 : gm_X c a z = 0) : z = a := by
  have hs := gm_X3 a e c z
  have k1 : gm_X a e c * z.1 = gm_X e c z * a.1 + gm_X c a z * e.1 + gm_X a e z * c.1 := by unfold gm_X; grind
  have k2 : gm_X a e c * z.2 = gm_X e c z * a.2 + gm_X c a z * e.2 + gm_X a e z * c.2 := by unfold gm_X; grind
  have e0 : gm_X e c z = gm_X a e c := by omega
  rw [h1, h2, e0] at k1 k2
  exact Prod.ext (Int.eq_of_mul_eq_mul_left hD (by omega)) (Int.eq_of_mul_eq_mul_left hD (by omega))
theorem gm_w3 (a e c z : Int × Int) : gm_w (gm_C [a, e, c]) z = gm_cr z a e + gm_cr z e c + gm_cr z c a := by
  show gm_cr z a e + (gm_cr z e c + (gm_cr z c a + 0)) = _
  omega
/-- an ear and what is left, place by place -/
theorem gm_parts {a e c : Int × Int} {R : List (Int × Int)} (hS : gm_ok (gm_C (a :: e :: c :: R))) (hR : R ≠ []) (hD : gm_X a e c ≠ 0) (hE : ∀ k, k ∈ R → ¬ gm_in a e c k) (hw : gm_w (gm_C (a :: c :: R)) e = 0) (z : Int × Int) :
    gm_val (gm_C (a :: e :: c :: R)) z + (if z = a then 1 else 0) + (if z = c then 1 else 0) = gm_val (gm_C [a, e, c]) z + gm_val (gm_C (a :: c :: R)) z ∧
    gm_ri (gm_C (a :: e :: c :: R)) z + 2 * (if gm_ob a c z = true then 1 else 0) = gm_ri (gm_C [a, e, c]) z + gm_ri (gm_C (a :: c :: R)) z + (if z = a then 1 else 0) + (if z = c then 1 else 0) := by
  have hne := gm_D_ne hD
  have eP := gm_C3 a e c R
  have eQ := gm_C2 a c R
  have eT : gm_C [a, e, c] = [(a, e), (e, c), (c, a)] := rfl
  have p1 : (a, e) ∈ gm_C (a :: e :: c :: R) := List.mem_cons_self
  have p2 : (e, c) ∈ gm_C (a :: e :: c :: R) := List.mem_cons_of_mem _ List.mem_cons_self
  have t1 : (a, e) ∈ gm_C [a, e, c] := List.mem_cons_self
  have t2 : (e, c) ∈ gm_C [a, e, c] := List.mem_cons_of_mem _ List.mem_cons_self
  have t3 : (c, a) ∈ gm_C [a, e, c] := List.mem_cons_of_mem _ (List.mem_cons_of_mem _ List.mem_cons_self)
  have q1 : (a, c) ∈ gm_C (a :: c :: R) := List.mem_cons_self
  have mP : ∀ f, f ∈ gm_C (a :: e :: c :: R) → f = (a, e) ∨ f = (e, c) ∨ f ∈ gm_E c (R ++ [a]) := by
    intro f hf; rw [eP] at hf
    rcases List.mem_cons.mp hf with h | h
    · exact Or.inl h
    · rcases List.mem_cons.mp h with h | h
      · exact Or.inr (Or.inl h)
      · exact Or.inr (Or.inr h)
  have mQ : ∀ f, f ∈ gm_C (a :: c :: R) → f = (a, c) ∨ f ∈ gm_E c (R ++ [a]) := by
    intro f hf; rw [eQ] at hf; exact List.mem_cons.mp hf
  have mT : ∀ f, f ∈ gm_C [a, e, c] → f = (a, e) ∨ f = (e, c) ∨ f = (c, a) := by
    intro f hf; rw [eT] at hf; simpa using hf
  have hpath : ∀ f, f ∈ gm_E c (R ++ [a]) → f ∈ gm_C (a :: e :: c :: R) ∧ f ∈ gm_C (a :: c :: R) := by
    intro f hf
    exact ⟨by rw [eP]; exact List.mem_cons_of_mem _ (List.mem_cons_of_mem _ hf), by rw [eQ]; exact List.mem_cons_of_mem _ hf⟩
  by_cases za : z = a
  · subst za
    have v1 := gm_val_r p1 (gm_on_l z e)
    have v2 := gm_val_r t1 (gm_on_l z e)
    have v3 := gm_val_r q1 (gm_on_l z c)
    rw [if_pos rfl, if_neg hne.2.2, if_pos (gm_ob_iff.mpr (gm_on_l z c))]
    omega
  · by_cases zc : z = c
    · subst zc
      have v1 := gm_val_r p2 (gm_on_r e z)
      have v2 := gm_val_r t2 (gm_on_r e z)
      have v3 := gm_val_r q1 (gm_on_r a z)
      rw [if_pos rfl, if_neg za, if_pos (gm_ob_iff.mpr (gm_on_r a z))]
      omega
    · rw [if_neg za, if_neg zc]
      by_cases hin : gm_in a e c z
      · have hno : ∀ f, f ∈ gm_E c (R ++ [a]) → ¬ gm_on f.1 f.2 z := by
          intro f hf ho
          rcases gm_onpath hD (gm_aw hS hR hE hf) (hS.1 f (hpath f hf).1) hin ho with h | h
          · exact za h
          · exact zc h
        by_cases hac : gm_on a c z
        · have hX : gm_X c a z = 0 := by rw [gm_Xswap a c z, hac.1]; rfl
          have n1 : gm_X a e z ≠ 0 := fun h => za (gm_corner hD h hX)
          have n2 : gm_X e c z ≠ 0 := fun h => zc (gm_corner (a := c) (e := a) (c := e) (by rw [← gm_Xrot c a e]; exact hD) hX h)
          have v1 := gm_val_n (E := gm_C (a :: e :: c :: R)) (z := z) (fun f hf => by
            rcases mP f hf with h | h | h
            · rw [h]; exact fun ho => n1 ho.1
            · rw [h]; exact fun ho => n2 ho.1
            · exact hno f h)
          have w1 := gm_ear_in hS hR hD hE hw hin n1 n2
          rw [if_neg (by rw [w1]; exact gm_u_ne _)] at v1
          have v2 := gm_val_r t3 (gm_on_swap.mpr hac)
          have v3 := gm_val_r q1 hac
          rw [if_pos (gm_ob_iff.mpr hac)]
          omega
        · have hX : gm_X c a z ≠ 0 := fun h => hac (gm_on_swap.mp (gm_in_on (a := c) (e := a) (c := e) (by rw [← gm_Xrot c a e]; exact hD) (gm_in_rot.mp hin) h))
          have hJ0 : gm_J e z a c = 0 := by
            refine Classical.byContradiction (fun hJ => ?_)
            have := gm_J_cross hJ
            have e1 : gm_X a c e = - gm_X a e c := by unfold gm_X; grind
            have e2 : gm_X a c z = - gm_X c a z := gm_Xswap c a z
            have hs := gm_X3 a e c z
            unfold gm_in at hin
            omega
          have hm := gm_mv0 (R := R) (fun f hf => gm_K3' hD (gm_aw hS hR hE hf) hin za zc)
          have v3 := gm_val_n (E := gm_C (a :: c :: R)) (z := z) (fun f hf => by
            rcases mQ f hf with h | h
            · rw [h]; exact hac
            · exact hno f h)
          rw [if_pos (by omega)] at v3
          rw [if_neg (fun h => hac (gm_ob_iff.mp h))]
          by_cases hrim : gm_on a e z ∨ gm_on e c z
          · have v1 : gm_val (gm_C (a :: e :: c :: R)) z = 1 ∧ gm_ri (gm_C (a :: e :: c :: R)) z = 1 := by
              rcases hrim with h | h
              · exact gm_val_r p1 h
              · exact gm_val_r p2 h
            have v2 : gm_val (gm_C [a, e, c]) z = 1 ∧ gm_ri (gm_C [a, e, c]) z = 1 := by
              rcases hrim with h | h
              · exact gm_val_r t1 h
              · exact gm_val_r t2 h
            omega
          · have n1 : gm_X a e z ≠ 0 := fun h => hrim (Or.inl (gm_in_on hD hin h))
            have n2 : gm_X e c z ≠ 0 := fun h => hrim (Or.inr (gm_in_on (c := a) (by rw [gm_Xrot a e c]; exact hD) (gm_in_rot.mpr hin) h))
            have v1 := gm_val_n (E := gm_C (a :: e :: c :: R)) (z := z) (fun f hf => by
              rcases mP f hf with h | h | h
              · rw [h]; exact fun ho => n1 ho.1
              · rw [h]; exact fun ho => n2 ho.1
              · exact hno f h)
            have w1 := gm_ear_in hS hR hD hE hw hin n1 n2
            rw [if_neg (by rw [w1]; exact gm_u_ne _)] at v1
            have v2 := gm_val_n (E := gm_C [a, e, c]) (z := z) (fun f hf => by
              rcases mT f hf with h | h | h
              · rw [h]; exact fun ho => n1 ho.1
              · rw [h]; exact fun ho => n2 ho.1
              · rw [h]; exact fun ho => hX ho.1)
            have w2 := gm_tloc hD hin n1 n2
            have u0 := gm_u_ne (gm_X a e c)
            rw [if_neg (by rw [gm_w3]; omega)] at v2
            omega
      · have n1 : ¬ gm_on a e z := fun h => hin (gm_on_in1 hD h)
        have n2 : ¬ gm_on e c z := fun h => hin (gm_on_in2 hD h)
        have n3 : ¬ gm_on a c z := fun h => hin (gm_on_in hD h)
        have v2 := gm_val_n (E := gm_C [a, e, c]) (z := z) (fun f hf => by
          rcases mT f hf with h | h | h
          · rw [h]; exact n1
          · rw [h]; exact n2
          · rw [h]; exact fun ho => n3 (gm_on_swap.mp ho))
        rw [if_pos (by rw [gm_w3]; exact gm_tout hD hin)] at v2
        rw [if_neg (fun h => n3 (gm_ob_iff.mp h))]
        have er : gm_rim (gm_C (a :: e :: c :: R)) z = gm_rim (gm_C (a :: c :: R)) z := by
          rw [Bool.eq_iff_iff, gm_rim_iff, gm_rim_iff]
          constructor
          · rintro ⟨f, h1, h2⟩
            rcases mP f h1 with h | h | h
            · rw [h] at h2; exact absurd h2 n1
            · rw [h] at h2; exact absurd h2 n2
            · exact ⟨f, (hpath f h).2, h2⟩
          · rintro ⟨f, h1, h2⟩
            rcases mQ f h1 with h | h
            · rw [h] at h2; exact absurd h2 n3
            · exact ⟨f, (hpath f h).1, h2⟩
        have ev : gm_val (gm_C (a :: e :: c :: R)) z = gm_val (gm_C (a :: c :: R)) z := by
          unfold gm_val; rw [er, gm_ear_out hD hin]
        have eri : gm_ri (gm_C (a :: e :: c :: R)) z = gm_ri (gm_C (a :: c :: R)) z := by
          unfold gm_ri; rw [er]
        omega
/-- three corners: the places and the area -/
theorem gm_tp0 {p q z : Int × Int} (hpq : p ≠ q) : (0 < gm_X p q z → gm_tp p q z ∧ gm_tp (gm_n p) (gm_n q) (gm_n z)) ∧ (gm_X p q z < 0 → ¬ gm_tp p q z ∧ ¬ gm_tp (gm_n p) (gm_n q) (gm_n z)) ∧ (gm_X p q z = 0 → (gm_tp (gm_n p) (gm_n q) (gm_n z) ↔ ¬ gm_tp p q z)) := by
  obtain ⟨p1, p2⟩ := p
  obtain ⟨q1, q2⟩ := q
  have hne : p1 ≠ q1 ∨ p2 ≠ q2 := by
    refine Classical.byContradiction (fun hc => hpq ?_)
    rw [show p1 = q1 by omega, show p2 = q2 by omega]
  unfold gm_tp
  rw [gm_nX]
  simp only [gm_n]
  generalize gm_X (p1, p2) (q1, q2) z = X
  refine ⟨fun h => ⟨Or.inl h, Or.inl h⟩, fun h => ⟨by omega, by omega⟩, fun h => ?_⟩
  subst h
  simp only [Int.lt_irrefl, false_or, true_and]
  omega
theorem gm_ph3 {a e c z : Int × Int} (hD : 0 < gm_X a e c) : gm_sm (gm_ph z) (gm_C [a, e, c]) = (if gm_tp a e z ∧ gm_tp e c z ∧ gm_tp c a z then 1 else 0) + (if gm_tp (gm_n a) (gm_n e) (gm_n z) ∧ gm_tp (gm_n e) (gm_n c) (gm_n z) ∧ gm_tp (gm_n c) (gm_n a) (gm_n z) then 1 else 0) := by
  rw [← gm_tl_pos hD, ← gm_tl_pos (a := gm_n a) (e := gm_n e) (c := gm_n c) (by rw [gm_nX]; exact hD)]
  show gm_ph z (a, e) + (gm_ph z (e, c) + (gm_ph z (c, a) + 0)) = _
  unfold gm_ph
  simp only
  omega
theorem gm_tri_val {K : Nat} {a e c : Int × Int} (hD : 0 < gm_X a e c) (ha : gm_b K a) (he : gm_b K e) (hc : gm_b K c) : gm_bx K (fun z => gm_val (gm_C [a, e, c]) z) = gm_X a e c + 2 := by
  have hD0 : gm_X a e c ≠ 0 := by omega
  have hne := gm_D_ne hD0
  have eT : gm_C [a, e, c] = [(a, e), (e, c), (c, a)] := rfl
  have t1 : (a, e) ∈ gm_C [a, e, c] := List.mem_cons_self
  have t2 : (e, c) ∈ gm_C [a, e, c] := List.mem_cons_of_mem _ List.mem_cons_self
  have t3 : (c, a) ∈ gm_C [a, e, c] := List.mem_cons_of_mem _ (List.mem_cons_of_mem _ List.mem_cons_self)
  have mT : ∀ f, f ∈ gm_C [a, e, c] → f = (a, e) ∨ f = (e, c) ∨ f = (c, a) := by
    intro f hf; rw [eT] at hf; simpa using hf
  have pt : ∀ z, gm_val (gm_C [a, e, c]) z = gm_sm (gm_ph z) (gm_C [a, e, c]) + (if z = a then 1 - gm_sm (gm_ph a) (gm_C [a, e, c]) else 0) + (if z = e then 1 - gm_sm (gm_ph e) (gm_C [a, e, c]) else 0) + (if z = c then 1 - gm_sm (gm_ph c) (gm_C [a, e, c]) else 0) := by
    intro z
    by_cases za : z = a
    · subst za
      rw [if_pos rfl, if_neg hne.1, if_neg hne.2.2, (gm_val_r t1 (gm_on_l z e)).1]; omega
    · by_cases ze : z = e
      · subst ze
        rw [if_pos rfl, if_neg za, if_neg hne.2.1, (gm_val_r t2 (gm_on_l z c)).1]; omega
      · by_cases zc : z = c
        · subst zc
          rw [if_pos rfl, if_neg za, if_neg ze, (gm_val_r t3 (gm_on_l z a)).1]; omega
        · rw [if_neg za, if_neg ze, if_neg zc, gm_ph3 hD]
          have hs := gm_X3 a e c z
          have f1 := gm_tp0 (z := z) hne.1
          have f2 := gm_tp0 (z := z) hne.2.1
          have f3 := gm_tp0 (z := z) hne.2.2.symm
          have c1 : ¬ (gm_X a e z = 0 ∧ gm_X c a z = 0) := fun h => za (gm_corner hD0 h.1 h.2)
          have c2 : ¬ (gm_X e c z = 0 ∧ gm_X a e z = 0) := fun h => ze (gm_corner (a := e) (e := c) (c := a) (by rw [gm_Xrot a e c]; exact hD0) h.1 h.2)
          have c3 : ¬ (gm_X c a z = 0 ∧ gm_X e c z = 0) := fun h => zc (gm_corner (a := c) (e := a) (c := e) (by rw [← gm_Xrot c a e]; exact hD0) h.1 h.2)
          have hw := gm_w3 a e c z
          rw [gm_tl_pos hD] at hw
          have hio1 : gm_on a e z ↔ (gm_X a e z = 0 ∧ 0 ≤ gm_X e c z ∧ 0 ≤ gm_X c a z) := by
            constructor
            · intro h
              have := (gm_in_pos hD).mp (gm_on_in1 hD0 h)
              exact ⟨h.1, this.2⟩
            · intro h
              exact gm_in_on hD0 ((gm_in_pos hD).mpr ⟨by omega, h.2⟩) h.1
          have hio2 : gm_on e c z ↔ (gm_X e c z = 0 ∧ 0 ≤ gm_X a e z ∧ 0 ≤ gm_X c a z) := by
            constructor
            · intro h
              have := (gm_in_pos hD).mp (gm_on_in2 hD0 h)
              exact ⟨h.1, this.1, this.2.2⟩
            · intro h
              exact gm_in_on (c := a) (by rw [gm_Xrot a e c]; exact hD0) (gm_in_rot.mpr ((gm_in_pos hD).mpr ⟨h.2.1, by omega, h.2.2⟩)) h.1
          have hio3 : gm_on c a z ↔ (gm_X c a z = 0 ∧ 0 ≤ gm_X a e z ∧ 0 ≤ gm_X e c z) := by
            constructor
            · intro h
              have := (gm_in_pos hD).mp (gm_on_in hD0 (gm_on_swap.mp h))
              exact ⟨h.1, this.1, this.2.1⟩
            · intro h
              exact gm_in_on (a := c) (e := a) (c := e) (by rw [← gm_Xrot c a e]; exact hD0) (gm_in_rot.mp ((gm_in_pos hD).mpr ⟨h.2.1, h.2.2, by omega⟩)) h.1
          have h2 : ∀ {p : Prop}, p → True := fun _ => trivial
          by_cases hneg : gm_X a e z < 0 ∨ gm_X e c z < 0 ∨ gm_X c a z < 0
          · have v := gm_val_n (E := gm_C [a, e, c]) (z := z) (fun f hf => by
              rcases mT f hf with h | h | h
              · rw [h]; exact fun ho => by have := hio1.mp ho; omega
              · rw [h]; exact fun ho => by have := hio2.mp ho; omega
              · rw [h]; exact fun ho => by have := hio3.mp ho; omega)
            have g1 : ¬ (gm_tp a e z ∧ gm_tp e c z ∧ gm_tp c a z) := by
              rintro ⟨k1, k2, k3⟩
              rcases hneg with h | h | h
              · exact (f1.2.1 h).1 k1
              · exact (f2.2.1 h).1 k2
              · exact (f3.2.1 h).1 k3
            have g2 : ¬ (gm_tp (gm_n a) (gm_n e) (gm_n z) ∧ gm_tp (gm_n e) (gm_n c) (gm_n z) ∧ gm_tp (gm_n c) (gm_n a) (gm_n z)) := by
              rintro ⟨k1, k2, k3⟩
              rcases hneg with h | h | h
              · exact (f1.2.1 h).2 k1
              · exact (f2.2.1 h).2 k2
              · exact (f3.2.1 h).2 k3
            rw [if_neg g1] at hw ⊢
            rw [if_neg g2, v.1, if_pos hw]; rfl
          · by_cases hz1 : gm_X a e z = 0
            · have v := gm_val_r t1 (hio1.mpr ⟨hz1, by omega, by omega⟩)
              have k2 := f2.1 (by omega)
              have k3 := f3.1 (by omega)
              have k1 := f1.2.2 hz1
              rw [v.1]
              by_cases hh : gm_tp a e z
              · rw [if_pos ⟨hh, k2.1, k3.1⟩, if_neg (fun h => (k1.mp h.1) hh)]; rfl
              · rw [if_neg (fun h => hh h.1), if_pos ⟨k1.mpr hh, k2.2, k3.2⟩]; rfl
            · by_cases hz2 : gm_X e c z = 0
              · have v := gm_val_r t2 (hio2.mpr ⟨hz2, by omega, by omega⟩)
                have k1 := f1.1 (by omega)
                have k3 := f3.1 (by omega)
                have k2 := f2.2.2 hz2
                rw [v.1]
                by_cases hh : gm_tp e c z
                · rw [if_pos ⟨k1.1, hh, k3.1⟩, if_neg (fun h => (k2.mp h.2.1) hh)]; rfl
                · rw [if_neg (fun h => hh h.2.1), if_pos ⟨k1.2, k2.mpr hh, k3.2⟩]; rfl
              · by_cases hz3 : gm_X c a z = 0
                · have v := gm_val_r t3 (hio3.mpr ⟨hz3, by omega, by omega⟩)
                  have k1 := f1.1 (by omega)
                  have k2 := f2.1 (by omega)
                  have k3 := f3.2.2 hz3
                  rw [v.1]
                  by_cases hh : gm_tp c a z
                  · rw [if_pos ⟨k1.1, k2.1, hh⟩, if_neg (fun h => (k3.mp h.2.2) hh)]; rfl
                  · rw [if_neg (fun h => hh h.2.2), if_pos ⟨k1.2, k2.2, k3.mpr hh⟩]; rfl
                · have k1 := f1.1 (by omega)
                  have k2 := f2.1 (by omega)
                  have k3 := f3.1 (by omega)
                  have v := gm_val_n (E := gm_C [a, e, c]) (z := z) (fun f hf => by
                    rcases mT f hf with h | h | h
                    · rw [h]; exact fun ho => hz1 ho.1
                    · rw [h]; exact fun ho => hz2 ho.1
                    · rw [h]; exact fun ho => hz3 ho.1)
                  rw [if_pos ⟨k1.1, k2.1, k3.1⟩] at hw ⊢
                  rw [if_pos ⟨k1.2, k2.2, k3.2⟩, v.1, if_neg (by omega)]; rfl
  -- the corners together
  have cor : gm_sm (gm_ph a) (gm_C [a, e, c]) + gm_sm (gm_ph e) (gm_C [a, e, c]) + gm_sm (gm_ph c) (gm_C [a, e, c]) = 1 := by
    rw [gm_ph3 hD, gm_ph3 hD, gm_ph3 hD]
    have xa := gm_X0 a e
    have xe := gm_X0 e c
    have xc := gm_X0 c a
    have a1 := (gm_tp0 (z := a) hne.1).2.2 xa.1
    have a2 := (gm_tp0 (z := a) hne.2.1).1 (by rw [gm_Xrot a e c]; exact hD)
    have a3 := (gm_tp0 (z := a) hne.2.2.symm).2.2 xc.2.1
    have e1 := (gm_tp0 (z := e) hne.1).2.2 xa.2.1
    have e2 := (gm_tp0 (z := e) hne.2.1).2.2 xe.1
    have e3 := (gm_tp0 (z := e) hne.2.2.symm).1 (by rw [← gm_Xrot c a e]; exact hD)
    have c1 := (gm_tp0 (z := c) hne.1).1 hD
    have c2 := (gm_tp0 (z := c) hne.2.1).2.2 xe.2.1
    have c3 := (gm_tp0 (z := c) hne.2.2.symm).2.2 xc.1
    have k1 : gm_tp a e a ↔ (e.2 < a.2 ∨ (e.2 = a.2 ∧ a.1 < e.1)) := by unfold gm_tp; rw [xa.1]; simp only [Int.lt_irrefl, false_or, true_and]
    have k1' : gm_tp a e e ↔ (e.2 < a.2 ∨ (e.2 = a.2 ∧ a.1 < e.1)) := by unfold gm_tp; rw [xa.2.1]; simp only [Int.lt_irrefl, false_or, true_and]
    have k2 : gm_tp e c e ↔ (c.2 < e.2 ∨ (c.2 = e.2 ∧ e.1 < c.1)) := by unfold gm_tp; rw [xe.1]; simp only [Int.lt_irrefl, false_or, true_and]
    have k2' : gm_tp e c c ↔ (c.2 < e.2 ∨ (c.2 = e.2 ∧ e.1 < c.1)) := by unfold gm_tp; rw [xe.2.1]; simp only [Int.lt_irrefl, false_or, true_and]
    have k3 : gm_tp c a c ↔ (a.2 < c.2 ∨ (a.2 = c.2 ∧ c.1 < a.1)) := by unfold gm_tp; rw [xc.1]; simp only [Int.lt_irrefl, false_or, true_and]
    have k3' : gm_tp c a a ↔ (a.2 < c.2 ∨ (a.2 = c.2 ∧ c.1 < a.1)) := by unfold gm_tp; rw [xc.2.1]; simp only [Int.lt_irrefl, false_or, true_and]
    have n1 : a.1 ≠ e.1 ∨ a.2 ≠ e.2 := by
      refine Classical.byContradiction (fun hc => hne.1 (Prod.ext (by omega) (by omega)))
    have n2 : e.1 ≠ c.1 ∨ e.2 ≠ c.2 := by
      refine Classical.byContradiction (fun hc => hne.2.1 (Prod.ext (by omega) (by omega)))
    have n3 : a.1 ≠ c.1 ∨ a.2 ≠ c.2 := by
      refine Classical.byContradiction (fun hc => hne.2.2 (Prod.ext (by omega) (by omega)))
    have nn1 : ¬ ((e.2 < a.2 ∨ (e.2 = a.2 ∧ a.1 < e.1)) ∧ (c.2 < e.2 ∨ (c.2 = e.2 ∧ e.1 < c.1)) ∧ (a.2 < c.2 ∨ (a.2 = c.2 ∧ c.1 < a.1))) := by omega
    have nn2 : ¬ (¬ (e.2 < a.2 ∨ (e.2 = a.2 ∧ a.1 < e.1)) ∧ ¬ (c.2 < e.2 ∨ (c.2 = e.2 ∧ e.1 < c.1)) ∧ ¬ (a.2 < c.2 ∨ (a.2 = c.2 ∧ c.1 < a.1))) := by omega
    rw [gm_ifc (show (gm_tp a e a ∧ gm_tp e c a ∧ gm_tp c a a) ↔ _ from by rw [k1, k3', and_iff_right a2.1]),
      gm_ifc (show (gm_tp (gm_n a) (gm_n e) (gm_n a) ∧ gm_tp (gm_n e) (gm_n c) (gm_n a) ∧ gm_tp (gm_n c) (gm_n a) (gm_n a)) ↔ _ from by rw [a1, a3, k1, k3', and_iff_right a2.2]),
      gm_ifc (show (gm_tp a e e ∧ gm_tp e c e ∧ gm_tp c a e) ↔ _ from by rw [k1', k2, and_iff_left e3.1]),
      gm_ifc (show (gm_tp (gm_n a) (gm_n e) (gm_n e) ∧ gm_tp (gm_n e) (gm_n c) (gm_n e) ∧ gm_tp (gm_n c) (gm_n a) (gm_n e)) ↔ _ from by rw [e1, e2, k1', k2, and_iff_left e3.2]),
      gm_ifc (show (gm_tp a e c ∧ gm_tp e c c ∧ gm_tp c a c) ↔ _ from by rw [k2', k3, and_iff_right c1.1]),
      gm_ifc (show (gm_tp (gm_n a) (gm_n e) (gm_n c) ∧ gm_tp (gm_n e) (gm_n c) (gm_n c) ∧ gm_tp (gm_n c) (gm_n a) (gm_n c)) ↔ _ from by rw [c2, c3, k2', k3, and_iff_right c1.2])]
    by_cases q1 : (e.2 < a.2 ∨ (e.2 = a.2 ∧ a.1 < e.1)) <;> by_cases q2 : (c.2 < e.2 ∨ (c.2 = e.2 ∧ e.1 < c.1)) <;> by_cases q3 : (a.2 < c.2 ∨ (a.2 = c.2 ∧ c.1 < a.1)) <;> simp only [q1, q2, q3, not_true_eq_false, not_false_eq_true, and_self, and_true, and_false, false_and, true_and, if_true, if_false] <;> first | rfl | (exfalso; omega)
  rw [gm_bx_cong pt, gm_bx_add, gm_bx_add, gm_bx_add, gm_bx_one ha, gm_bx_one he, gm_bx_one hc, gm_area_sum]
  · have har : gm_ar (gm_C [a, e, c]) = gm_X a e c := by
      show (a.1 * e.2 - a.2 * e.1) + ((e.1 * c.2 - e.2 * c.1) + ((c.1 * a.2 - c.2 * a.1) + 0)) = _
      unfold gm_X; grind
    rw [har]; omega
  · intro k hk
    simp only [List.mem_cons, List.not_mem_nil, or_false] at hk
    rcases hk with rfl | rfl | rfl
    · exact ha
    · exact he
    · exact hc
end RZG17
