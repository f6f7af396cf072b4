/-! part 97za11: simple polygons: greatest -/
section RZG11
theorem gm_w_perm {A B : List ((Int × Int) × (Int × Int))} (h : A.Perm B) (z : Int × Int) : gm_w A z = gm_w B z := gm_sm_perm _ h
theorem gm_ar_perm {A B : List ((Int × Int) × (Int × Int))} (h : A.Perm B) : gm_ar A = gm_ar B := gm_sm_perm _ h
theorem gm_jn_perm {A B : List ((Int × Int) × (Int × Int))} (h : A.Perm B) (hA : gm_jn A) : gm_jn B := by
  refine ⟨by rw [← gm_ar_perm h]; exact hA.1, fun z hz => ?_⟩
  rw [← gm_ar_perm h, ← gm_w_perm h]
  exact hA.2 z (fun f hf => hz f (h.mem_iff.mp hf))
def gm_ear (P : List (Int × Int)) (a e c : Int × Int) (R : List (Int × Int)) : Prop := (gm_C P).Perm (gm_C (a :: e :: c :: R)) ∧ gm_X a e c ≠ 0 ∧ (∀ k, k ∈ R → ¬ gm_in a e c k) ∧ gm_w (gm_C (a :: c :: R)) e = 0
theorem gm_ins {u v a : Int × Int} (C : List (Int × Int)) (R : List (Int × Int)) : ∀ (p : Int × Int), (u, v) ∈ gm_E p (R ++ [a]) → ∃ (R' : List (Int × Int)) (F0 : List ((Int × Int) × (Int × Int))), (gm_E p (R ++ [a])).Perm ((u, v) :: F0) ∧ (gm_E p (R' ++ [a])).Perm (F0 ++ gm_E u (C ++ [v])) ∧ ∀ k, k ∈ R' → k ∈ R ∨ k ∈ C := by
  induction R with
  | nil =>
    intro p h
    have h' : (u, v) ∈ [(p, a)] := h
    rw [List.mem_singleton, Prod.mk.injEq] at h'
    obtain ⟨rfl, rfl⟩ := h'
    exact ⟨C, [], List.Perm.refl _, List.Perm.refl _, fun k hk => Or.inr hk⟩
  | cons q R ih =>
    intro p h
    have h' : (u, v) ∈ (p, q) :: gm_E q (R ++ [a]) := h
    rcases List.mem_cons.mp h' with h1 | h1
    · rw [Prod.mk.injEq] at h1
      obtain ⟨rfl, rfl⟩ := h1
      refine ⟨C ++ v :: R, gm_E v (R ++ [a]), List.Perm.refl _, ?_, ?_⟩
      · rw [List.append_assoc, List.cons_append, gm_E_app]
        exact List.perm_append_comm
      · intro k hk
        rcases List.mem_append.mp hk with h2 | h2
        · exact Or.inr h2
        · exact Or.inl h2
    · obtain ⟨R', F0, g1, g2, g3⟩ := ih q h1
      refine ⟨q :: R', (p, q) :: F0, ?_, ?_, ?_⟩
      · exact (g1.cons (p, q)).trans (List.Perm.swap _ _ _)
      · exact g2.cons (p, q)
      · intro k hk
        rcases List.mem_cons.mp hk with h2 | h2
        · exact Or.inl (by rw [h2]; exact List.mem_cons_self)
        · rcases g3 k h2 with h3 | h3
          · exact Or.inl (List.mem_cons_of_mem _ h3)
          · exact Or.inr h3
/-- an ear of a part is one of the whole -/
theorem gm_lift {P Q C : List (Int × Int)} {F : List ((Int × Int) × (Int × Int))} {u v a e c : Int × Int} {R : List (Int × Int)} (hQ : (gm_C Q).Perm ((u, v) :: F)) (hP : (gm_C P).Perm (F ++ gm_E u (C ++ [v]))) (he : (gm_C Q).Perm (gm_C (a :: e :: c :: R))) (hu : e ≠ u) (hv : e ≠ v) : ∃ R', (gm_C P).Perm (gm_C (a :: e :: c :: R')) ∧ (∀ k, k ∈ R' → k ∈ R ∨ k ∈ C) ∧ ∀ z, gm_w (gm_C (a :: c :: R')) z = gm_w (gm_C (a :: c :: R)) z + gm_w (gm_C (v :: u :: C)) z := by
  have hm : (u, v) ∈ gm_C (a :: e :: c :: R) := (he.symm.trans hQ).mem_iff.mpr List.mem_cons_self
  rw [gm_C3] at hm
  have hm' : (u, v) ∈ gm_E c (R ++ [a]) := by
    rcases List.mem_cons.mp hm with h | h
    · rw [Prod.mk.injEq] at h; exact absurd h.2.symm hv
    · rcases List.mem_cons.mp h with h | h
      · rw [Prod.mk.injEq] at h; exact absurd h.1.symm hu
      · exact h
  obtain ⟨R', F0, g1, g2, g3⟩ := gm_ins C R c hm'
  refine ⟨R', ?_, g3, ?_⟩
  · have h1 : ((u, v) :: F).Perm ((u, v) :: (a, e) :: (e, c) :: F0) := by
      refine hQ.symm.trans (he.trans ?_)
      rw [gm_C3]
      refine ((g1.cons (e, c)).cons (a, e)).trans ?_
      exact ((List.Perm.swap _ _ _).cons (a, e)).trans (List.Perm.swap _ _ _)
    have h2 := h1.cons_inv
    refine hP.trans ((h2.append_right _).trans ?_)
    rw [gm_C3]
    exact ((g2.symm.cons (e, c)).cons (a, e))
  · intro z
    have s1 : gm_w (gm_E c (R ++ [a])) z = gm_cr z u v + gm_w F0 z := gm_w_perm g1 z
    have s2 : gm_w (gm_E c (R' ++ [a])) z = gm_w F0 z + gm_w (gm_E u (C ++ [v])) z := by
      rw [gm_w_perm g2 z]; unfold gm_w; rw [gm_sm_app]
    have e1 : gm_w (gm_C (a :: c :: R')) z = gm_cr z a c + gm_w (gm_E c (R' ++ [a])) z := rfl
    have e2 : gm_w (gm_C (a :: c :: R)) z = gm_cr z a c + gm_w (gm_E c (R ++ [a])) z := rfl
    have e3 : gm_w (gm_C (v :: u :: C)) z = gm_cr z v u + gm_w (gm_E u (C ++ [v])) z := rfl
    rw [e1, e2, e3, s1, s2, gm_cr_swap z u v]
    omega
theorem gm_chain {E : List ((Int × Int) × (Int × Int))} (C : List (Int × Int)) : ∀ (p : Int × Int), (∀ f, f ∈ gm_E p C → gm_w E f.1 = gm_w E f.2) → ∀ k, k ∈ p :: C → gm_w E k = gm_w E p := by
  induction C with
  | nil => intro p _ k hk; rw [List.mem_singleton] at hk; rw [hk]
  | cons q C ih =>
    intro p h k hk
    have h0 := h (p, q) List.mem_cons_self
    rcases List.mem_cons.mp hk with h1 | h1
    · rw [h1]
    · rw [ih q (fun f hf => h f (List.mem_cons_of_mem _ hf)) k h1]; exact h0.symm
def gm_lt (p b : Int × Int) : Prop := p.1 < b.1 ∨ (p.1 = b.1 ∧ p.2 < b.2)
theorem gm_LBJ {o b x y : Int × Int} (ho : gm_lt o b) (hx : gm_lt x b) (hy : gm_lt y b) (h : (0 < gm_X b o x ∧ 0 < gm_X b o y) ∨ (gm_X b o x < 0 ∧ gm_X b o y < 0)) : gm_J o b y b + gm_J o b b x = 0 := by
  obtain ⟨o1, o2⟩ := o
  obtain ⟨b1, b2⟩ := b
  obtain ⟨x1, x2⟩ := x
  obtain ⟨y1, y2⟩ := y
  have a1 : gm_X (o1, o2) (b1, b2) (y1, y2) = - gm_X (b1, b2) (o1, o2) (y1, y2) := gm_Xswap _ _ _
  have a2 : gm_X (o1, o2) (b1, b2) (x1, x2) = - gm_X (b1, b2) (o1, o2) (x1, x2) := gm_Xswap _ _ _
  have a3 := (gm_X0 (o1, o2) (b1, b2)).2.1
  have t1 : gm_X (y1, y2) (b1, b2) (o1, o2) = gm_X (b1, b2) (o1, o2) (y1, y2) := by unfold gm_X; grind
  have t2 := (gm_X0 (y1, y2) (b1, b2)).2.1
  have t3 : gm_X (b1, b2) (x1, x2) (o1, o2) = - gm_X (b1, b2) (o1, o2) (x1, x2) := by unfold gm_X; grind
  have t4 := (gm_X0 (b1, b2) (x1, x2)).1
  have ex : gm_X (b1, b2) (o1, o2) (x1, x2) = (o1 - b1) * (x2 - b2) - (o2 - b2) * (x1 - b1) := rfl
  have ey : gm_X (b1, b2) (o1, o2) (y1, y2) = (o1 - b1) * (y2 - b2) - (o2 - b2) * (y1 - b1) := rfl
  have hb : (gm_am (o1, o2) (b1, b2) (b1, b2)) ↔ o2 < b2 := by
    unfold gm_am
    rw [a3]
    unfold gm_lt at ho
    simp only [Int.lt_irrefl, true_and, false_or] at ho ⊢
    omega
  have ht2 : (gm_tp (y1, y2) (b1, b2) (b1, b2)) ↔ (b2 < y2 ∨ b2 = y2) := by
    unfold gm_tp
    rw [t2]
    unfold gm_lt at hy
    simp only [Int.lt_irrefl, true_and, false_or] at hy ⊢
    omega
  have ht4 : (gm_tp (b1, b2) (x1, x2) (b1, b2)) ↔ x2 < b2 := by
    unfold gm_tp
    rw [t4]
    unfold gm_lt at hx
    simp only [Int.lt_irrefl, true_and, false_or] at hx ⊢
    omega
  unfold gm_lt at ho hx hy
  simp only at ho hx hy
  rcases h with ⟨h1, h2⟩ | ⟨h1, h2⟩
  · have n1 : ¬ gm_am (o1, o2) (b1, b2) (y1, y2) := by unfold gm_am; rw [a1]; omega
    have n2 : ¬ gm_am (o1, o2) (b1, b2) (x1, x2) := by unfold gm_am; rw [a2]; omega
    by_cases hob : o2 < b2
    · have p1 : 0 ≤ (o2 - b2) * (x1 - b1) := Int.mul_nonneg_of_nonpos_of_nonpos (by omega) (by omega)
      have p2 : 0 ≤ (o2 - b2) * (y1 - b1) := Int.mul_nonneg_of_nonpos_of_nonpos (by omega) (by omega)
      have q1 : x2 < b2 := by
        refine Classical.byContradiction (fun hc => ?_)
        have : (o1 - b1) * (x2 - b2) ≤ 0 := Int.mul_nonpos_of_nonpos_of_nonneg (by omega) (by omega)
        omega
      have q2 : y2 < b2 := by
        refine Classical.byContradiction (fun hc => ?_)
        have : (o1 - b1) * (y2 - b2) ≤ 0 := Int.mul_nonpos_of_nonpos_of_nonneg (by omega) (by omega)
        omega
      have j1 : gm_J (o1, o2) (b1, b2) (y1, y2) (b1, b2) = 1 := by
        unfold gm_J
        rw [if_neg (fun hi => n1 (hi.mpr (hb.mpr hob))), if_pos (show gm_tp (y1, y2) (b1, b2) (o1, o2) from Or.inl (by rw [t1]; exact h2)), if_neg (by rw [ht2]; omega)]; rfl
      have j2 : gm_J (o1, o2) (b1, b2) (b1, b2) (x1, x2) = -1 := by
        unfold gm_J
        rw [if_neg (fun hi => n2 (hi.mp (hb.mpr hob))), if_neg (show ¬ gm_tp (b1, b2) (x1, x2) (o1, o2) by unfold gm_tp; rw [t3]; omega), if_pos (ht4.mpr q1)]; rfl
      rw [j1, j2]; rfl
    · have j1 : gm_J (o1, o2) (b1, b2) (y1, y2) (b1, b2) = 0 := by
        unfold gm_J
        exact if_pos ⟨fun h => absurd h n1, fun h => absurd (hb.mp h) hob⟩
      have j2 : gm_J (o1, o2) (b1, b2) (b1, b2) (x1, x2) = 0 := by
        unfold gm_J
        exact if_pos ⟨fun h => absurd (hb.mp h) hob, fun h => absurd h n2⟩
      rw [j1, j2]; rfl
  · have n1 : gm_am (o1, o2) (b1, b2) (y1, y2) := Or.inl (by rw [a1]; omega)
    have n2 : gm_am (o1, o2) (b1, b2) (x1, x2) := Or.inl (by rw [a2]; omega)
    by_cases hob : o2 < b2
    · have j1 : gm_J (o1, o2) (b1, b2) (y1, y2) (b1, b2) = 0 := by
        unfold gm_J
        exact if_pos ⟨fun _ => hb.mpr hob, fun _ => n1⟩
      have j2 : gm_J (o1, o2) (b1, b2) (b1, b2) (x1, x2) = 0 := by
        unfold gm_J
        exact if_pos ⟨fun _ => n2, fun _ => hb.mpr hob⟩
      rw [j1, j2]; rfl
    · have p1 : (o2 - b2) * (x1 - b1) ≤ 0 := Int.mul_nonpos_of_nonneg_of_nonpos (by omega) (by omega)
      have p2 : (o2 - b2) * (y1 - b1) ≤ 0 := Int.mul_nonpos_of_nonneg_of_nonpos (by omega) (by omega)
      have q1 : b2 < x2 := by
        refine Classical.byContradiction (fun hc => ?_)
        have : 0 ≤ (o1 - b1) * (x2 - b2) := Int.mul_nonneg_of_nonpos_of_nonpos (by omega) (by omega)
        omega
      have q2 : b2 < y2 := by
        refine Classical.byContradiction (fun hc => ?_)
        have : 0 ≤ (o1 - b1) * (y2 - b2) := Int.mul_nonneg_of_nonpos_of_nonpos (by omega) (by omega)
        omega
      have j1 : gm_J (o1, o2) (b1, b2) (y1, y2) (b1, b2) = -1 := by
        unfold gm_J
        rw [if_neg (fun hi => hob (hb.mp (hi.mp n1))), if_neg (show ¬ gm_tp (y1, y2) (b1, b2) (o1, o2) by unfold gm_tp; rw [t1]; omega), if_pos (ht2.mpr (Or.inl q2))]; rfl
      have j2 : gm_J (o1, o2) (b1, b2) (b1, b2) (x1, x2) = 1 := by
        unfold gm_J
        rw [if_neg (fun hi => hob (hb.mp (hi.mpr n2))), if_pos (show gm_tp (b1, b2) (x1, x2) (o1, o2) from Or.inl (by rw [t3]; omega)), if_neg (by rw [ht4]; omega)]; rfl
      rw [j1, j2]; rfl
/-- the greatest corner is outside -/
theorem gm_top {b p q : Int × Int} (hp : p = b ∨ gm_lt p b) (hq : q = b ∨ gm_lt q b) : gm_cr b p q = 0 := by
  obtain ⟨b1, b2⟩ := b
  obtain ⟨p1, p2⟩ := p
  obtain ⟨q1, q2⟩ := q
  have hp' : p1 ≤ b1 ∧ (p1 = b1 → p2 ≤ b2) := by
    rcases hp with h | h
    · rw [Prod.mk.injEq] at h; omega
    · unfold gm_lt at h; simp only at h; omega
  have hq' : q1 ≤ b1 ∧ (q1 = b1 → q2 ≤ b2) := by
    rcases hq with h | h
    · rw [Prod.mk.injEq] at h; omega
    · unfold gm_lt at h; simp only at h; omega
  have e : gm_X (p1, p2) (q1, q2) (b1, b2) = (p1 - b1) * (q2 - b2) - (q1 - b1) * (p2 - b2) := by unfold gm_X; grind
  unfold gm_cr
  refine gm_k0 ?_ ?_
  · rintro ⟨h1, h2, h3⟩
    simp only at h1 h2
    rw [e] at h3
    have a1 : (p1 - b1) * (q2 - b2) ≤ 0 := Int.mul_nonpos_of_nonpos_of_nonneg (by omega) (by omega)
    have a2 : 0 ≤ (q1 - b1) * (p2 - b2) := Int.mul_nonneg_of_nonpos_of_nonpos (by omega) (by omega)
    omega
  · rintro ⟨h1, h2, h3⟩
    simp only at h1 h2
    rw [e] at h3
    have a1 : 0 ≤ (p1 - b1) * (q2 - b2) := Int.mul_nonneg_of_nonpos_of_nonpos (by omega) (by omega)
    have a2 : (q1 - b1) * (p2 - b2) ≤ 0 := Int.mul_nonpos_of_nonpos_of_nonneg (by omega) (by omega)
    omega
theorem gm_N2_pos {a e c d p q : Int × Int} (hD : 0 < gm_X a e c) (hd : gm_in a e c d) (d1 : gm_X a e d ≠ 0) (hed : e ≠ d) (hpq : p ≠ q) (hp : gm_in a e c p → gm_X c a p ≤ gm_X c a d) (hq : gm_in a e c q → gm_X c a q ≤ gm_X c a d) (ha : gm_hit p q a e → p = a ∨ q = a) (hc : gm_hit p q e c → p = c ∨ q = c) (hno : ¬ gm_on p q d) : ¬ gm_hit p q e d := by
  intro hh
  obtain ⟨l, m, n, k, hl, hm, hn, hk, h0, h1, h2, h3⟩ := gm_hit_mt hpq hed hh
  have y1 := gm_mt_X h1 h2 h3 a e
  have y2 := gm_mt_X h1 h2 h3 e c
  have y3 := gm_mt_X h1 h2 h3 c a
  rw [gm_in_pos hD] at hd
  have hs := gm_X3 a e c d
  have x0 := gm_X0 a e
  have x1 := gm_X0 e c
  have x2 := gm_X0 c a
  have r2 : gm_X c a e = gm_X a e c := (gm_Xrot c a e).symm
  rcases Int.lt_or_le 0 n with hn1 | hn1
  · have z1 : 0 ≤ l * gm_X a e p + m * gm_X a e q := by rw [y1, x0.2.1, Int.mul_zero, Int.zero_add]; exact Int.mul_nonneg hk hd.1
    have z2 : 0 ≤ l * gm_X e c p + m * gm_X e c q := by rw [y2, x1.1, Int.mul_zero, Int.zero_add]; exact Int.mul_nonneg hk hd.2.1
    have z3 : gm_X c a d * (l + m) < l * gm_X c a p + m * gm_X c a q := by
      rw [y3, r2, h1]
      have : 0 < n * (gm_X a e c - gm_X c a d) := Int.mul_pos hn1 (by omega)
      have e : n * gm_X a e c + k * gm_X c a d = gm_X c a d * (n + k) + n * (gm_X a e c - gm_X c a d) := by grind
      omega
    have z4 : 0 ≤ l * gm_X c a p + m * gm_X c a q := by
      have : 0 ≤ gm_X c a d * (l + m) := Int.mul_nonneg hd.2.2 (by omega)
      omega
    rcases gm_PL (h := gm_X c a d) hD (by omega) hl hm h0 z1 z2 z4 z3 (fun g1 g2 g3 => hp ((gm_in_pos hD).mpr ⟨g1, g2, g3⟩)) (fun g1 g2 g3 => hq ((gm_in_pos hD).mpr ⟨g1, g2, g3⟩)) with ⟨g, g'⟩ | ⟨g, g'⟩
    · rcases ha g' with h | h
      · rw [h] at g; omega
      · rw [h] at g; omega
    · rcases hc g' with h | h
      · rw [h] at g; omega
      · rw [h] at g; omega
  · have hn0 : n = 0 := by omega
    subst hn0
    refine hno (gm_on_of hl hm h0 ?_ ?_) <;> grind
theorem gm_N2 {a e c d p q : Int × Int} (hD : gm_X a e c ≠ 0) (hd : gm_in a e c d) (d1 : gm_X a e d ≠ 0) (d2 : gm_X e c d ≠ 0) (hpq : p ≠ q) (hp : gm_in a e c p → gm_u (gm_X a e c) * gm_X c a p ≤ gm_u (gm_X a e c) * gm_X c a d) (hq : gm_in a e c q → gm_u (gm_X a e c) * gm_X c a q ≤ gm_u (gm_X a e c) * gm_X c a d) (ha : gm_hit p q a e → p = a ∨ q = a) (hc : gm_hit p q e c → p = c ∨ q = c) (hno : ¬ gm_on p q d) : ¬ gm_hit p q e d := by
  have hed : e ≠ d := by rintro rfl; exact d1 (gm_X0 a e).2.1
  rcases Int.lt_or_le 0 (gm_X a e c) with h | h
  · rw [gm_u_pos h] at hp hq
    simp only [Int.one_mul] at hp hq
    exact gm_N2_pos h hd d1 hed hpq hp hq ha hc hno
  · have h' : 0 < gm_X c e a := by rw [gm_Xm]; omega
    rw [gm_u_neg (by omega)] at hp hq
    refine gm_N2_pos h' (gm_in_swap.mpr hd) (by rw [gm_Xswap e c d]; omega) hed hpq ?_ ?_ ?_ ?_ hno
    · intro g
      have := hp (gm_in_swap.mp g)
      rw [gm_Xswap c a p, gm_Xswap c a d]; omega
    · intro g
      have := hq (gm_in_swap.mp g)
      rw [gm_Xswap c a q, gm_Xswap c a d]; omega
    · exact fun g => hc (gm_hit_swap'.mp g)
    · exact fun g => ha (gm_hit_swap'.mp g)
theorem gm_max {Q : Int × Int → Prop} (f : Int × Int → Int) (L : List (Int × Int)) (h : ∃ k, k ∈ L ∧ Q k) : ∃ d, d ∈ L ∧ Q d ∧ ∀ k, k ∈ L → Q k → f k ≤ f d := by
  induction L with
  | nil => obtain ⟨k, hk, -⟩ := h; cases hk
  | cons a L ih =>
    by_cases h1 : ∃ k, k ∈ L ∧ Q k
    · obtain ⟨d, g1, g2, g3⟩ := ih h1
      by_cases h2 : Q a ∧ f d < f a
      · refine ⟨a, List.mem_cons_self, h2.1, fun k hk hq => ?_⟩
        rcases List.mem_cons.mp hk with h3 | h3
        · rw [h3]; exact Int.le_refl _
        · have := g3 k h3 hq; omega
      · refine ⟨d, List.mem_cons_of_mem _ g1, g2, fun k hk hq => ?_⟩
        rcases List.mem_cons.mp hk with h3 | h3
        · rw [h3] at hq ⊢
          refine Classical.byContradiction (fun hc => h2 ⟨hq, by omega⟩)
        · exact g3 k h3 hq
    · obtain ⟨k, hk, hq⟩ := h
      rcases List.mem_cons.mp hk with h3 | h3
      · rw [h3] at hq
        refine ⟨a, List.mem_cons_self, hq, fun k' hk' hq' => ?_⟩
        rcases List.mem_cons.mp hk' with h4 | h4
        · rw [h4]; exact Int.le_refl _
        · exact absurd ⟨k', h4, hq'⟩ h1
      · exact absurd ⟨k, h3, hq⟩ h1
end RZG11
