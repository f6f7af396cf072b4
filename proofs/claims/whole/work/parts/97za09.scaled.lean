/-! part 97za09: simple polygons: scaled -/
section RZG09
def gm_c (N : Int) (p : Int × Int) : Int × Int := (N * p.1, N * p.2)
theorem gm_cX (N : Int) (p q r : Int × Int) : gm_X (gm_c N p) (gm_c N q) (gm_c N r) = N * N * gm_X p q r := by unfold gm_X gm_c; simp only; grind
theorem gm_cle {N : Int} (hN : 0 < N) {a b : Int} : N * a ≤ N * b ↔ a ≤ b := by
  constructor
  · intro h
    have := gm_sgt hN (b - a)
    have e : N * (b - a) = N * b - N * a := by grind
    omega
  · intro h; exact Int.mul_le_mul_of_nonneg_left h (Int.le_of_lt hN)
theorem gm_clt {N : Int} (hN : 0 < N) {a b : Int} : N * a < N * b ↔ a < b := by
  have := gm_cle hN (a := b) (b := a)
  omega
theorem gm_ceq {N : Int} (hN : 0 < N) {a b : Int} : N * a = N * b ↔ a = b := by
  have := gm_cle hN (a := b) (b := a)
  have := gm_cle hN (a := a) (b := b)
  omega
theorem gm_cinj {N : Int} (hN : 0 < N) {p q : Int × Int} : gm_c N p = gm_c N q ↔ p = q := by
  obtain ⟨px, py⟩ := p
  obtain ⟨qx, qy⟩ := q
  unfold gm_c
  rw [Prod.mk.injEq, Prod.mk.injEq, gm_ceq hN, gm_ceq hN]
theorem gm_csg {N : Int} (hN : 0 < N) (p q r : Int × Int) : (0 < gm_X (gm_c N p) (gm_c N q) (gm_c N r) ↔ 0 < gm_X p q r) ∧ (gm_X (gm_c N p) (gm_c N q) (gm_c N r) < 0 ↔ gm_X p q r < 0) := by
  rw [gm_cX]
  have := gm_sgt (Int.mul_pos hN hN) (gm_X p q r)
  omega
theorem gm_con {N : Int} (hN : 0 < N) (p q z : Int × Int) : gm_on (gm_c N p) (gm_c N q) (gm_c N z) ↔ gm_on p q z := by
  have h := gm_csg hN p q z
  have b : ∀ {a b c : Int}, (min (N * a) (N * b) ≤ N * c ∧ N * c ≤ max (N * a) (N * b)) ↔ (min a b ≤ c ∧ c ≤ max a b) := by
    intro a b c
    have := gm_cle hN (a := a) (b := c)
    have := gm_cle hN (a := b) (b := c)
    have := gm_cle hN (a := c) (b := a)
    have := gm_cle hN (a := c) (b := b)
    omega
  unfold gm_on
  show (_ ∧ (min (N * p.1) (N * q.1) ≤ N * z.1 ∧ N * z.1 ≤ max (N * p.1) (N * q.1)) ∧ (min (N * p.2) (N * q.2) ≤ N * z.2 ∧ N * z.2 ≤ max (N * p.2) (N * q.2))) ↔ _
  rw [b, b]
  omega
theorem gm_chit {N : Int} (hN : 0 < N) (p q r s : Int × Int) : gm_hit (gm_c N p) (gm_c N q) (gm_c N r) (gm_c N s) ↔ gm_hit p q r s := by
  have h1 := gm_csg hN p q r
  have h2 := gm_csg hN p q s
  have h3 := gm_csg hN r s p
  have h4 := gm_csg hN r s q
  have c1 : gm_crs (gm_c N p) (gm_c N q) (gm_c N r) (gm_c N s) ↔ gm_crs p q r s := by unfold gm_crs; omega
  have c2 : gm_crs (gm_c N r) (gm_c N s) (gm_c N p) (gm_c N q) ↔ gm_crs r s p q := by unfold gm_crs; omega
  unfold gm_hit
  rw [gm_con hN, gm_con hN, gm_con hN, gm_con hN, c1, c2]
theorem gm_cfold {N : Int} (hN : 0 < N) (p q r : Int × Int) : gm_fold (gm_c N p) (gm_c N q) (gm_c N r) ↔ gm_fold p q r := by
  have h1 := gm_csg hN p q r
  unfold gm_fold
  have e : ((gm_c N p).1 - (gm_c N q).1) * ((gm_c N r).1 - (gm_c N q).1) + ((gm_c N p).2 - (gm_c N q).2) * ((gm_c N r).2 - (gm_c N q).2) = N * N * ((p.1 - q.1) * (r.1 - q.1) + (p.2 - q.2) * (r.2 - q.2)) := by unfold gm_c; simp only; grind
  rw [e]
  have := gm_sgt (Int.mul_pos hN hN) ((p.1 - q.1) * (r.1 - q.1) + (p.2 - q.2) * (r.2 - q.2))
  omega
theorem gm_cin {N : Int} (hN : 0 < N) (a e c z : Int × Int) : gm_in (gm_c N a) (gm_c N e) (gm_c N c) (gm_c N z) ↔ gm_in a e c z := by
  have h1 := gm_csg hN a e z
  have h2 := gm_csg hN e c z
  have h3 := gm_csg hN c a z
  unfold gm_in
  omega
theorem gm_ccr {N : Int} (hN : 0 < N) (z p q : Int × Int) : gm_cr (gm_c N z) (gm_c N p) (gm_c N q) = gm_cr z p q := by
  have h1 := gm_csg hN p q z
  have e1 := gm_cle hN (a := p.2) (b := z.2)
  have e2 := gm_cle hN (a := q.2) (b := z.2)
  unfold gm_cr gm_k
  have e3 : (gm_c N p).2 - (gm_c N z).2 = N * p.2 - N * z.2 := rfl
  have e4 : (gm_c N q).2 - (gm_c N z).2 = N * q.2 - N * z.2 := rfl
  rw [e3, e4]
  rw [gm_ifc (show (N * p.2 - N * z.2 ≤ 0 ∧ 0 < N * q.2 - N * z.2 ∧ 0 < gm_X (gm_c N p) (gm_c N q) (gm_c N z)) ↔ (p.2 - z.2 ≤ 0 ∧ 0 < q.2 - z.2 ∧ 0 < gm_X p q z) by omega), gm_ifc (show (N * q.2 - N * z.2 ≤ 0 ∧ 0 < N * p.2 - N * z.2 ∧ gm_X (gm_c N p) (gm_c N q) (gm_c N z) < 0) ↔ (q.2 - z.2 ≤ 0 ∧ 0 < p.2 - z.2 ∧ gm_X p q z < 0) by omega)]
theorem gm_ctp {N : Int} (hN : 0 < N) (p q z : Int × Int) : gm_tp (gm_c N p) (gm_c N q) (gm_c N z) ↔ gm_tp p q z := by
  have h1 := gm_csg hN p q z
  have e1 := gm_clt hN (a := q.2) (b := p.2)
  have e2 := gm_ceq hN (a := q.2) (b := p.2)
  have e3 := gm_clt hN (a := p.1) (b := q.1)
  unfold gm_tp
  show (_ ∨ (_ ∧ (N * q.2 < N * p.2 ∨ (N * q.2 = N * p.2 ∧ N * p.1 < N * q.1)))) ↔ _
  omega
def gm_ce (N : Int) (f : (Int × Int) × (Int × Int)) : (Int × Int) × (Int × Int) := (gm_c N f.1, gm_c N f.2)
theorem gm_E_map (N : Int) (L : List (Int × Int)) : ∀ p, gm_E (gm_c N p) (L.map (gm_c N)) = (gm_E p L).map (gm_ce N) := by
  induction L with
  | nil => intro p; rfl
  | cons a L ih => intro p; show (gm_c N p, gm_c N a) :: gm_E (gm_c N a) (L.map (gm_c N)) = _; rw [ih]; rfl
theorem gm_C_map (N : Int) (P : List (Int × Int)) : gm_C (P.map (gm_c N)) = (gm_C P).map (gm_ce N) := by
  cases P with
  | nil => rfl
  | cons p L =>
    show gm_E (gm_c N p) (L.map (gm_c N) ++ [gm_c N p]) = (gm_E p (L ++ [p])).map (gm_ce N)
    rw [← gm_E_map, List.map_append]; rfl
theorem gm_ok_c {N : Int} (hN : 0 < N) {P : List (Int × Int)} (h : gm_ok (gm_C P)) : gm_ok (gm_C (P.map (gm_c N))) := by
  rw [gm_C_map]
  refine ⟨?_, ?_⟩
  · intro f hf
    obtain ⟨g, hg, rfl⟩ := List.mem_map.mp hf
    exact fun c => h.1 g hg ((gm_cinj hN).mp c)
  · refine List.pairwise_map.mpr (h.2.imp ?_)
    intro e f hef
    rcases hef with ⟨h1, h2⟩ | ⟨h1, h2⟩ | h1
    · exact Or.inl ⟨(gm_cinj hN).mpr h1, fun c => h2 ((gm_cfold hN _ _ _).mp c)⟩
    · exact Or.inr (Or.inl ⟨(gm_cinj hN).mpr h1, fun c => h2 ((gm_cfold hN _ _ _).mp c)⟩)
    · exact Or.inr (Or.inr (fun c => h1 ((gm_chit hN _ _ _ _).mp c)))
theorem gm_sm_map (f : (Int × Int) × (Int × Int) → Int) (g : (Int × Int) × (Int × Int) → (Int × Int) × (Int × Int)) (E : List ((Int × Int) × (Int × Int))) : gm_sm f (E.map g) = gm_sm (fun e => f (g e)) E := by
  induction E with
  | nil => rfl
  | cons e E ih => show f (g e) + gm_sm f (E.map g) = _; rw [ih]; rfl
theorem gm_w_c {N : Int} (hN : 0 < N) (P : List (Int × Int)) (z : Int × Int) : gm_w (gm_C (P.map (gm_c N))) (gm_c N z) = gm_w (gm_C P) z := by
  unfold gm_w
  rw [gm_C_map, gm_sm_map]
  exact gm_sm_cong (fun e _ => gm_ccr hN z e.1 e.2)
theorem gm_sm_mul (k : Int) (f : (Int × Int) × (Int × Int) → Int) (E : List ((Int × Int) × (Int × Int))) : gm_sm (fun e => k * f e) E = k * gm_sm f E := by
  induction E with
  | nil => show (0 : Int) = k * 0; omega
  | cons e E ih => show k * f e + gm_sm _ E = k * (f e + gm_sm f E); rw [ih]; grind
theorem gm_ar_c (N : Int) (P : List (Int × Int)) : gm_ar (gm_C (P.map (gm_c N))) = N * N * gm_ar (gm_C P) := by
  unfold gm_ar
  rw [gm_C_map, gm_sm_map, ← gm_sm_mul]
  refine gm_sm_cong (fun e _ => ?_)
  show N * e.1.1 * (N * e.2.2) - N * e.1.2 * (N * e.2.1) = _
  grind
theorem gm_c_c (M N : Int) (P : List (Int × Int)) : (P.map (gm_c M)).map (gm_c N) = P.map (gm_c (N * M)) := by
  rw [List.map_map]
  refine List.map_congr_left (fun p _ => ?_)
  show (N * (M * p.1), N * (M * p.2)) = (N * M * p.1, N * M * p.2)
  rw [Int.mul_assoc, Int.mul_assoc]
/-- all places off the rim are gone round once or not at all -/
def gm_jn (E : List ((Int × Int) × (Int × Int))) : Prop := gm_ar E ≠ 0 ∧ ∀ z, (∀ f, f ∈ E → ¬ gm_on f.1 f.2 z) → gm_w E z = 0 ∨ gm_w E z = gm_u (gm_ar E)
theorem gm_on_dot {p q m : Int × Int} (h : gm_X p q m = 0) (hn : ¬ gm_on p q m) : 0 < (p.1 - m.1) * (q.1 - m.1) + (p.2 - m.2) * (q.2 - m.2) := by
  obtain ⟨px, py⟩ := p
  obtain ⟨qx, qy⟩ := q
  obtain ⟨mx, my⟩ := m
  refine Classical.byContradiction (fun hc => hn ?_)
  have h1 : (qx - px) * (my - py) - (qy - py) * (mx - px) = 0 := h
  simp only at hc
  have c0 : (px - mx) * (qy - my) = (py - my) * (qx - mx) := by grind
  generalize hs : (px - mx) * (qx - mx) + (py - my) * (qy - my) = s at hc
  have s1 := gm_sq (qx - mx)
  have s2 := gm_sq (qy - my)
  by_cases h0 : (qx - mx) * (qx - mx) + (qy - my) * (qy - my) = 0
  · have t1 := s1.2 (by omega)
    have t2 := s2.2 (by omega)
    have e1 : mx = qx := by omega
    have e2 : my = qy := by omega
    subst e1; subst e2
    exact gm_on_r _ _
  · refine gm_on_of (l := (qx - mx) * (qx - mx) + (qy - my) * (qy - my)) (m := - s) (by omega) (by omega) (by omega) ?_ ?_
    · simp only; grind
    · simp only; grind
/-- near a place that is not on a side -/
theorem gm_near {p q m : Int × Int} (hn : ¬ gm_on p q m) (v : Int × Int) : ∃ N0 : Int, 0 < N0 ∧ ∀ N, N0 ≤ N → gm_J (gm_c N m) (N * m.1 + v.1, N * m.2 + v.2) (gm_c N p) (gm_c N q) = 0 ∧ ¬ gm_on (gm_c N p) (gm_c N q) (N * m.1 + v.1, N * m.2 + v.2) := by
  have eT : ∀ N, gm_X (gm_c N p) (gm_c N q) (N * m.1 + v.1, N * m.2 + v.2) = N * (N * gm_X p q m + ((q.1 - p.1) * v.2 - (q.2 - p.2) * v.1)) := by intro N; unfold gm_X gm_c; simp only; grind
  by_cases hT : gm_X p q m = 0
  · have hd := gm_on_dot hT hn
    obtain ⟨px, py⟩ := p
    obtain ⟨qx, qy⟩ := q
    obtain ⟨mx, my⟩ := m
    obtain ⟨vx, vy⟩ := v
    have h1 : (qx - px) * (my - py) - (qy - py) * (mx - px) = 0 := hT
    simp only at hd ⊢
    have c0 : (px - mx) * (qy - my) = (py - my) * (qx - mx) := by grind
    refine ⟨((vx * (px - mx + (qx - mx)) + vy * (py - my + (qy - my))).natAbs : Int) + 1, by omega, fun N hN => ?_⟩
    have hN0 : 0 < N := by omega
    constructor
    · refine Classical.byContradiction (fun hJ => ?_)
      have ea : gm_X (gm_c N (mx, my)) (N * mx + vx, N * my + vy) (gm_c N (px, py)) = N * (vx * (py - my) - vy * (px - mx)) := by unfold gm_X gm_c; simp only; grind
      have eb : gm_X (gm_c N (mx, my)) (N * mx + vx, N * my + vy) (gm_c N (qx, qy)) = N * (vx * (qy - my) - vy * (qx - mx)) := by unfold gm_X gm_c; simp only; grind
      have hc := gm_J_cross hJ
      rw [ea, eb] at hc
      have k1 : ((px - mx) * (qx - mx) + (py - my) * (qy - my)) * (vx * (py - my) - vy * (px - mx)) = ((px - mx) * (px - mx) + (py - my) * (py - my)) * (vx * (qy - my) - vy * (qx - mx)) := by grind
      have k2 : ((px - mx) * (qx - mx) + (py - my) * (qy - my)) * (vx * (qy - my) - vy * (qx - mx)) = ((qx - mx) * (qx - mx) + (qy - my) * (qy - my)) * (vx * (py - my) - vy * (px - mx)) := by grind
      have p1 : 0 ≤ (px - mx) * (px - mx) + (py - my) * (py - my) := by have := (gm_sq (px - mx)).1; have := (gm_sq (py - my)).1; omega
      have p2 : 0 ≤ (qx - mx) * (qx - mx) + (qy - my) * (qy - my) := by have := (gm_sq (qx - mx)).1; have := (gm_sq (qy - my)).1; omega
      generalize vx * (py - my) - vy * (px - mx) = al at *
      generalize vx * (qy - my) - vy * (qx - mx) = be at *
      generalize (px - mx) * (px - mx) + (py - my) * (py - my) = P at *
      generalize (qx - mx) * (qx - mx) + (qy - my) * (qy - my) = Q at *
      generalize (px - mx) * (qx - mx) + (py - my) * (qy - my) = S at *
      have s1 := gm_sgt hN0 al
      have s2 := gm_sgt hN0 be
      have s3 := gm_sgt hd al
      have s4 := gm_sgt hd be
      have a1 : 0 ≤ be → 0 ≤ P * be := fun h => Int.mul_nonneg p1 h
      have a2 : be ≤ 0 → P * be ≤ 0 := fun h => Int.mul_nonpos_of_nonneg_of_nonpos p1 h
      have a3 : 0 ≤ al → 0 ≤ Q * al := fun h => Int.mul_nonneg p2 h
      have a4 : al ≤ 0 → Q * al ≤ 0 := fun h => Int.mul_nonpos_of_nonneg_of_nonpos p2 h
      omega
    · rintro ⟨-, ⟨b1, b2⟩, b3, b4⟩
      simp only [gm_c] at b1 b2 b3 b4
      have sg : ∀ {a b : Int}, (min a b ≤ 0 ∧ 0 ≤ max a b) → a * b ≤ 0 := by
        intro a b h
        rcases Int.le_total 0 a with h1 | h1 <;> rcases Int.le_total 0 b with h2 | h2
        · have : a = 0 ∨ b = 0 := by omega
          rcases this with h3 | h3 <;> rw [h3] <;> simp
        · exact Int.mul_nonpos_of_nonneg_of_nonpos h1 h2
        · exact Int.mul_nonpos_of_nonpos_of_nonneg h1 h2
        · have : a = 0 ∨ b = 0 := by omega
          rcases this with h3 | h3 <;> rw [h3] <;> simp
      have g1 := sg (a := N * px - (N * mx + vx)) (b := N * qx - (N * mx + vx)) (by omega)
      have g2 := sg (a := N * py - (N * my + vy)) (b := N * qy - (N * my + vy)) (by omega)
      have e : (N * px - (N * mx + vx)) * (N * qx - (N * mx + vx)) + (N * py - (N * my + vy)) * (N * qy - (N * my + vy)) = N * (N * ((px - mx) * (qx - mx) + (py - my) * (qy - my)) - (vx * (px - mx + (qx - mx)) + vy * (py - my + (qy - my)))) + (vx * vx + vy * vy) := by grind
      have v1 := (gm_sq vx).1
      have v2 := (gm_sq vy).1
      generalize vx * (px - mx + (qx - mx)) + vy * (py - my + (qy - my)) = B at *
      generalize (px - mx) * (qx - mx) + (py - my) * (qy - my) = S at *
      have h3 : N ≤ N * S := by
        have : N * 1 ≤ N * S := Int.mul_le_mul_of_nonneg_left (by omega) (by omega)
        omega
      have h4 : 0 < N * (N * S - B) := Int.mul_pos hN0 (by omega)
      omega
  · refine ⟨(((q.1 - p.1) * v.2 - (q.2 - p.2) * v.1).natAbs : Int) + 1, by omega, fun N hN => ?_⟩
    have hN0 : 0 < N := by omega
    generalize (q.1 - p.1) * v.2 - (q.2 - p.2) * v.1 = B at *
    have h0 := gm_csg hN0 p q m
    have hT' := eT N
    have h2 : (0 < gm_X p q m → N ≤ N * gm_X p q m) ∧ (gm_X p q m < 0 → N * gm_X p q m ≤ - N) := by
      constructor
      · intro h
        have : N * 1 ≤ N * gm_X p q m := Int.mul_le_mul_of_nonneg_left (by omega) (by omega)
        omega
      · intro h
        have : N * gm_X p q m ≤ N * (-1) := Int.mul_le_mul_of_nonneg_left (by omega) (by omega)
        omega
    have h3 := gm_sgt hN0 (N * gm_X p q m + B)
    constructor
    · refine Classical.byContradiction (fun hJ => ?_)
      have hc := gm_J_cross hJ
      omega
    · rintro ⟨hz, -⟩
      omega
theorem gm_ev {α : Type} {Q : α → Int → Prop} (L : List α) (h : ∀ f, f ∈ L → ∃ N0 : Int, 0 < N0 ∧ ∀ N, N0 ≤ N → Q f N) : ∃ N0 : Int, 0 < N0 ∧ ∀ N, N0 ≤ N → ∀ f, f ∈ L → Q f N := by
  induction L with
  | nil => exact ⟨1, by omega, fun N _ f hf => by cases hf⟩
  | cons a L ih =>
    obtain ⟨N1, h1, h2⟩ := ih (fun f hf => h f (List.mem_cons_of_mem _ hf))
    obtain ⟨N2, h3, h4⟩ := h a List.mem_cons_self
    refine ⟨N1 + N2, by omega, fun N hN f hf => ?_⟩
    rcases List.mem_cons.mp hf with h5 | h5
    · rw [h5]; exact h4 N (by omega)
    · exact h2 N (by omega) f h5
end RZG09
