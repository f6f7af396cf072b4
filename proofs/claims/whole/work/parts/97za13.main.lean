/-! part 97za13: simple polygons: main -/
section RZG13
theorem gm_E_snd {a : Int × Int} (L : List (Int × Int)) : ∀ (p : Int × Int), (gm_E p (L ++ [a])).map Prod.snd = L ++ [a] := by
  induction L with
  | nil => intro p; rfl
  | cons q L ih => intro p; show q :: (gm_E q (L ++ [a])).map Prod.snd = _; rw [ih]; rfl
theorem gm_C_snd {P : List (Int × Int)} {f : (Int × Int) × (Int × Int)} (h : f ∈ gm_C P) : f.2 ∈ P := by
  cases P with
  | nil => cases h
  | cons p L =>
    have := List.mem_map_of_mem (f := Prod.snd) h
    rw [show (gm_C (p :: L)).map Prod.snd = L ++ [p] from gm_E_snd L p] at this
    rcases List.mem_append.mp this with h | h
    · exact List.mem_cons_of_mem _ h
    · rw [List.mem_singleton.mp h]; exact List.mem_cons_self
theorem gm_lt_tri (p q : Int × Int) : gm_lt p q ∨ p = q ∨ gm_lt q p := by
  obtain ⟨p1, p2⟩ := p
  obtain ⟨q1, q2⟩ := q
  unfold gm_lt
  rw [Prod.mk.injEq]
  simp only
  omega
theorem gm_lt_trans {p q r : Int × Int} (h1 : gm_lt p q) (h2 : gm_lt q r) : gm_lt p r := by
  unfold gm_lt at *
  omega
theorem gm_great (L : List (Int × Int)) (h : L ≠ []) : ∃ b, b ∈ L ∧ ∀ k, k ∈ L → k = b ∨ gm_lt k b := by
  induction L with
  | nil => exact absurd rfl h
  | cons a L ih =>
    by_cases hL : L = []
    · refine ⟨a, List.mem_cons_self, fun k hk => ?_⟩
      rw [hL] at hk
      exact Or.inl (List.mem_singleton.mp hk)
    · obtain ⟨b, h1, h2⟩ := ih hL
      rcases gm_lt_tri a b with h3 | h3 | h3
      · refine ⟨b, List.mem_cons_of_mem _ h1, fun k hk => ?_⟩
        rcases List.mem_cons.mp hk with h4 | h4
        · rw [h4]; exact Or.inr h3
        · exact h2 k h4
      · refine ⟨b, List.mem_cons_of_mem _ h1, fun k hk => ?_⟩
        rcases List.mem_cons.mp hk with h4 | h4
        · rw [h4]; exact Or.inl h3
        · exact h2 k h4
      · refine ⟨a, List.mem_cons_self, fun k hk => ?_⟩
        rcases List.mem_cons.mp hk with h4 | h4
        · exact Or.inl h4
        · rcases h2 k h4 with h5 | h5
          · rw [h5]; exact Or.inr h3
          · exact Or.inr (gm_lt_trans h5 h3)
/-- at the greatest corner the way turns -/
theorem gm_turns {a b c : Int × Int} (ha : gm_lt a b) (hc : gm_lt c b) (hf : ¬ gm_fold a b c) : gm_X a b c ≠ 0 := by
  intro h
  apply hf
  refine ⟨h, ?_⟩
  obtain ⟨a1, a2⟩ := a
  obtain ⟨b1, b2⟩ := b
  obtain ⟨c1, c2⟩ := c
  have h' : (a1 - b1) * (c2 - b2) = (a2 - b2) * (c1 - b1) := by
    have : (b1 - a1) * (c2 - a2) - (b2 - a2) * (c1 - a1) = 0 := h
    grind
  unfold gm_lt at ha hc
  simp only at ha hc ⊢
  clear h hf
  rcases ha with ha | ⟨ha, ha'⟩
  · rcases hc with hc | ⟨hc, hc'⟩
    · have e : (a1 - b1) * ((a1 - b1) * (c1 - b1) + (a2 - b2) * (c2 - b2)) = (c1 - b1) * ((a1 - b1) * (a1 - b1) + (a2 - b2) * (a2 - b2)) := by grind
      have p1 : 0 < (a1 - b1) * (a1 - b1) := Int.mul_pos_of_neg_of_neg (by omega) (by omega)
      have p2 := (gm_sq (a2 - b2)).1
      have p3 : (c1 - b1) * ((a1 - b1) * (a1 - b1) + (a2 - b2) * (a2 - b2)) < 0 := Int.mul_neg_of_neg_of_pos (by omega) (by omega)
      have s := gm_sgt (t := b1 - a1) (by omega) ((a1 - b1) * (c1 - b1) + (a2 - b2) * (c2 - b2))
      have e2 : (b1 - a1) * ((a1 - b1) * (c1 - b1) + (a2 - b2) * (c2 - b2)) = - ((a1 - b1) * ((a1 - b1) * (c1 - b1) + (a2 - b2) * (c2 - b2))) := by grind
      omega
    · exfalso
      have e : c1 - b1 = 0 := by omega
      rw [e, Int.mul_zero] at h'
      have := Int.mul_pos_of_neg_of_neg (show a1 - b1 < 0 by omega) (show c2 - b2 < 0 by omega)
      omega
  · have e : a1 - b1 = 0 := by omega
    rw [e, Int.zero_mul] at h' ⊢
    rcases hc with hc | ⟨hc, hc'⟩
    · exfalso
      have := Int.mul_pos_of_neg_of_neg (show a2 - b2 < 0 by omega) (show c1 - b1 < 0 by omega)
      omega
    · have := Int.mul_pos_of_neg_of_neg (show a2 - b2 < 0 by omega) (show c2 - b2 < 0 by omega)
      omega
/-- the greatest is in no triangle of others -/
theorem gm_top_in {a e c b : Int × Int} (hD : gm_X a e c ≠ 0) (ha : gm_lt a b) (he : gm_lt e b) (hc : gm_lt c b) : ¬ gm_in a e c b := by
  intro h
  obtain ⟨u1, u2, u3, u4⟩ := gm_in_h hD h
  have hs := gm_X3 a e c b
  have k1 : gm_X e c b * (a.1 - b.1) + gm_X c a b * (e.1 - b.1) + gm_X a e b * (c.1 - b.1) = 0 := by unfold gm_X; grind
  have k2 : gm_X e c b * (a.2 - b.2) + gm_X c a b * (e.2 - b.2) + gm_X a e b * (c.2 - b.2) = 0 := by unfold gm_X; grind
  have m1 : gm_u (gm_X a e c) * gm_X e c b * (a.1 - b.1) + gm_u (gm_X a e c) * gm_X c a b * (e.1 - b.1) + gm_u (gm_X a e c) * gm_X a e b * (c.1 - b.1) = 0 := by
    have : gm_u (gm_X a e c) * (gm_X e c b * (a.1 - b.1) + gm_X c a b * (e.1 - b.1) + gm_X a e b * (c.1 - b.1)) = 0 := by rw [k1, Int.mul_zero]
    grind
  have m2 : gm_u (gm_X a e c) * gm_X e c b * (a.2 - b.2) + gm_u (gm_X a e c) * gm_X c a b * (e.2 - b.2) + gm_u (gm_X a e c) * gm_X a e b * (c.2 - b.2) = 0 := by
    have : gm_u (gm_X a e c) * (gm_X e c b * (a.2 - b.2) + gm_X c a b * (e.2 - b.2) + gm_X a e b * (c.2 - b.2)) = 0 := by rw [k2, Int.mul_zero]
    grind
  have m3 : gm_u (gm_X a e c) * gm_X a e c = gm_u (gm_X a e c) * gm_X a e b + gm_u (gm_X a e c) * gm_X e c b + gm_u (gm_X a e c) * gm_X c a b := by rw [← hs]; grind
  generalize gm_u (gm_X a e c) * gm_X e c b = A at *
  generalize gm_u (gm_X a e c) * gm_X c a b = B at *
  generalize gm_u (gm_X a e c) * gm_X a e b = C at *
  unfold gm_lt at ha he hc
  have p : ∀ {A x : Int}, 0 ≤ A → x ≤ 0 → A * x ≤ 0 := fun h1 h2 => Int.mul_nonpos_of_nonneg_of_nonpos h1 h2
  have q1 := p u2 (show a.1 - b.1 ≤ 0 by omega)
  have q2 := p u3 (show e.1 - b.1 ≤ 0 by omega)
  have q3 := p u1 (show c.1 - b.1 ≤ 0 by omega)
  have z1 := Int.mul_eq_zero.mp (show A * (a.1 - b.1) = 0 by omega)
  have z2 := Int.mul_eq_zero.mp (show B * (e.1 - b.1) = 0 by omega)
  have z3 := Int.mul_eq_zero.mp (show C * (c.1 - b.1) = 0 by omega)
  have w : ∀ {A x y : Int}, 0 ≤ A → (x < 0 ∨ (x = 0 ∧ y < 0)) → (A = 0 ∨ x = 0) → A * y ≤ 0 ∧ (A * y = 0 → A = 0) := by
    intro A x y hA hxy hz
    rcases hz with hz | hz
    · rw [hz, Int.zero_mul]; exact ⟨Int.le_refl _, fun _ => rfl⟩
    · refine ⟨p hA (by omega), fun h => ?_⟩
      rcases Int.mul_eq_zero.mp h with h | h <;> omega
  have r1 := w (y := a.2 - b.2) u2 (by omega) z1
  have r2 := w (y := e.2 - b.2) u3 (by omega) z2
  have r3 := w (y := c.2 - b.2) u1 (by omega) z3
  omega
/-- three corners -/
theorem gm_tri3 {a e c : Int × Int} (hS : gm_ok (gm_C [a, e, c])) : gm_X a e c ≠ 0 ∧ gm_jn (gm_C [a, e, c]) := by
  have hN := gm_ok_nodup hS
  simp only [List.nodup_cons, List.mem_cons, List.not_mem_nil, or_false, not_or] at hN
  obtain ⟨⟨ae, ac⟩, ec, -⟩ := hN
  have eE : gm_C [a, e, c] = [(a, e), (e, c), (c, a)] := rfl
  have hS' := hS
  rw [eE] at hS'
  have hp := hS'.2
  rw [List.pairwise_cons, List.pairwise_cons] at hp
  have f1 := gm_o2_fold ac (hp.1 (e, c) List.mem_cons_self)
  have f2 := gm_o2_fold (Ne.symm ae) (hp.2.1 (c, a) List.mem_cons_self)
  have hD : gm_X a e c ≠ 0 := by
    intro h
    have h2 : gm_X e c a = 0 := by rw [gm_Xrot a e c]; exact h
    have g1 : (a.1 - e.1) * (c.1 - e.1) + (a.2 - e.2) * (c.2 - e.2) ≤ 0 := by
      refine Classical.byContradiction (fun hc => f1 ⟨h, by omega⟩)
    have g2 : (e.1 - c.1) * (a.1 - c.1) + (e.2 - c.2) * (a.2 - c.2) ≤ 0 := by
      refine Classical.byContradiction (fun hc => f2 ⟨h2, by omega⟩)
    have s1 := gm_sq (e.1 - c.1)
    have s2 := gm_sq (e.2 - c.2)
    have e1 : (a.1 - e.1) * (c.1 - e.1) + (a.2 - e.2) * (c.2 - e.2) + ((e.1 - c.1) * (a.1 - c.1) + (e.2 - c.2) * (a.2 - c.2)) = (e.1 - c.1) * (e.1 - c.1) + (e.2 - c.2) * (e.2 - c.2) := by grind
    have t1 := s1.2 (by omega)
    have t2 := s2.2 (by omega)
    exact ec (Prod.ext (by omega) (by omega))
  have har : gm_ar (gm_C [a, e, c]) = gm_X a e c := by
    rw [eE]
    show (a.1 * e.2 - a.2 * e.1) + ((e.1 * c.2 - e.2 * c.1) + ((c.1 * a.2 - c.2 * a.1) + 0)) = _
    unfold gm_X; grind
  refine ⟨hD, by rw [har]; exact hD, fun z hz => ?_⟩
  rw [har]
  have hw : gm_w (gm_C [a, e, c]) z = gm_cr z a e + gm_cr z e c + gm_cr z c a := by
    rw [eE]
    show gm_cr z a e + (gm_cr z e c + (gm_cr z c a + 0)) = _
    omega
  rw [hw]
  by_cases hin : gm_in a e c z
  · right
    rw [eE] at hz
    have z1 : gm_X a e z ≠ 0 := fun h => hz (a, e) List.mem_cons_self (gm_in_on hD hin h)
    have z2 : gm_X e c z ≠ 0 := fun h => hz (e, c) (List.mem_cons_of_mem _ List.mem_cons_self) (gm_in_on (c := a) (by rw [gm_Xrot a e c]; exact hD) (gm_in_rot.mpr hin) h)
    have z3 : gm_X c a z ≠ 0 := fun h => hz (c, a) (List.mem_cons_of_mem _ (List.mem_cons_of_mem _ List.mem_cons_self)) (gm_in_on (a := c) (e := a) (c := e) (by rw [← gm_Xrot c a e]; exact hD) (gm_in_rot.mp hin) h)
    have hJ : gm_J e z a c = 0 := by
      refine Classical.byContradiction (fun hJ => ?_)
      have := gm_J_cross hJ
      have e1 : gm_X a c e = - gm_X a e c := by unfold gm_X; grind
      have e2 : gm_X a c z = - gm_X c a z := gm_Xswap c a z
      have hs := gm_X3 a e c z
      unfold gm_in at hin
      omega
    have := gm_tloc hD hin z1 z2
    omega
  · left
    exact gm_tout hD hin
def gm_en (P : List (Int × Int)) : Prop := ∀ f g, (f, g) ∈ gm_C P → ∃ a e c R, gm_ear P a e c R ∧ e ≠ f ∧ e ≠ g
theorem gm_w2 (a c z : Int × Int) : gm_w (gm_C [a, c]) z = 0 := by
  show gm_cr z a c + (gm_cr z c a + 0) = 0
  rw [gm_cr_swap z a c]; omega
theorem gm_tri3_en {a e c : Int × Int} (hS : gm_ok (gm_C [a, e, c])) : gm_en [a, e, c] := by
  have hD := (gm_tri3 hS).1
  have hN := gm_ok_nodup hS
  simp only [List.nodup_cons, List.mem_cons, List.not_mem_nil, or_false, not_or] at hN
  obtain ⟨⟨ae, ac⟩, ec, -⟩ := hN
  intro f g hfg
  have hfg' : (f, g) ∈ [(a, e), (e, c), (c, a)] := hfg
  simp only [List.mem_cons, List.not_mem_nil, or_false, Prod.mk.injEq] at hfg'
  rcases hfg' with ⟨rfl, rfl⟩ | ⟨rfl, rfl⟩ | ⟨rfl, rfl⟩
  · exact ⟨g, c, f, [], ⟨gm_C_rot [f] [g, c], by rw [gm_Xrot f g c]; exact hD, (fun k hk => by cases hk), gm_w2 _ _ _⟩, fun h => ac h.symm, fun h => ec h.symm⟩
  · exact ⟨g, a, f, [], ⟨gm_C_rot [a, f] [g], by rw [← gm_Xrot g a f]; exact hD, (fun k hk => by cases hk), gm_w2 _ _ _⟩, ae, ac⟩
  · exact ⟨g, e, f, [], ⟨List.Perm.refl _, hD, (fun k hk => by cases hk), gm_w2 _ _ _⟩, ec, fun h => ae h.symm⟩
theorem gm_len {P Q : List (Int × Int)} (h : (gm_C P).Perm (gm_C Q)) : P.length = Q.length := by
  rw [← gm_C_len P, ← gm_C_len Q]; exact h.length_eq
theorem gm_mem {P Q : List (Int × Int)} (h : (gm_C P).Perm (gm_C Q)) (k : Int × Int) : k ∈ P ↔ k ∈ Q := by
  have := h.map Prod.fst
  rw [gm_C_fst, gm_C_fst] at this
  exact this.mem_iff
theorem gm_en_perm {P Q : List (Int × Int)} (h : (gm_C P).Perm (gm_C Q)) (hQ : gm_en Q) : gm_en P := by
  intro f g hfg
  obtain ⟨a, e, c, R, ⟨h1, h2⟩, h3⟩ := hQ f g (h.mem_iff.mp hfg)
  exact ⟨a, e, c, R, ⟨h.trans h1, h2⟩, h3⟩
/-- there are ears, not next to each other -/
theorem gm_step {a b c : Int × Int} {R : List (Int × Int)} (hR : R ≠ []) (hS : gm_ok (gm_C (a :: b :: c :: R))) (hlt : ∀ k, k ∈ a :: c :: R → gm_lt k b) (hIH : ∀ Q : List (Int × Int), Q.length < (a :: b :: c :: R).length → 3 ≤ Q.length → gm_ok (gm_C Q) → gm_jn (gm_C Q) ∧ gm_en Q) : gm_en (a :: b :: c :: R) := by
  have hN := gm_ok_nodup hS
  rw [List.nodup_cons, List.nodup_cons, List.nodup_cons] at hN
  obtain ⟨n1, n2, n3, n4⟩ := hN
  have ac : a ≠ c := fun h => n1 (by rw [h]; exact List.mem_cons_of_mem _ List.mem_cons_self)
  have hS' := hS
  rw [gm_C3] at hS'
  have hp := hS'.2
  rw [List.pairwise_cons, List.pairwise_cons] at hp
  have hD : gm_X a b c ≠ 0 := gm_turns (hlt a List.mem_cons_self) (hlt c (List.mem_cons_of_mem _ List.mem_cons_self)) (gm_o2_fold ac (hp.1 (b, c) List.mem_cons_self))
  by_cases hE : ∃ k, k ∈ R ∧ gm_in a b c k
  · obtain ⟨d, hdR, hd, hmax⟩ := gm_max (fun k => gm_u (gm_X a b c) * gm_X c a k) R hE
    obtain ⟨R1, R2, rfl⟩ := List.append_of_mem hdR
    obtain ⟨ok1, ok2, w1, w2⟩ := gm_B hS hD hd hmax hlt
    have eP : gm_C (a :: b :: c :: (R1 ++ d :: R2)) = (a, b) :: (b, c) :: (gm_E c (R1 ++ [d]) ++ gm_E d (R2 ++ [a])) := by
      rw [gm_C3, List.append_assoc, List.cons_append, gm_E_app]
    have l1 : (d :: b :: c :: R1).length < (a :: b :: c :: (R1 ++ d :: R2)).length := by simp only [List.length_cons, List.length_append]; omega
    have l2 : (a :: b :: d :: R2).length < (a :: b :: c :: (R1 ++ d :: R2)).length := by simp only [List.length_cons, List.length_append]; omega
    have i1 := (hIH _ l1 (by simp only [List.length_cons]; omega) ok1).2
    have i2 := (hIH _ l2 (by simp only [List.length_cons]; omega) ok2).2
    rw [List.nodup_append, List.nodup_cons] at n4
    obtain ⟨n5, ⟨n6, n7⟩, n8⟩ := n4
    have c1 : ∀ k, k ∈ R2 ++ [a] → k ∉ d :: b :: c :: R1 := by
      intro k hk hk'
      rcases List.mem_append.mp hk with h | h
      · rcases List.mem_cons.mp hk' with g | g
        · exact n6 (by rw [← g]; exact h)
        · rcases List.mem_cons.mp g with g | g
          · exact n2 (by rw [← g]; exact List.mem_cons_of_mem _ (List.mem_append_right _ (List.mem_cons_of_mem _ h)))
          · rcases List.mem_cons.mp g with g | g
            · exact n3 (by rw [← g]; exact List.mem_append_right _ (List.mem_cons_of_mem _ h))
            · exact n8 k g k (List.mem_cons_of_mem _ h) rfl
      · rw [List.mem_singleton] at h
        rw [h] at hk'
        rcases List.mem_cons.mp hk' with g | g
        · exact n1 (by rw [g]; exact List.mem_cons_of_mem _ (List.mem_cons_of_mem _ hdR))
        · rcases List.mem_cons.mp g with g | g
          · exact n1 (by rw [g]; exact List.mem_cons_self)
          · rcases List.mem_cons.mp g with g | g
            · exact ac g
            · exact n1 (List.mem_cons_of_mem _ (List.mem_cons_of_mem _ (List.mem_append_left _ g)))
    have c2 : ∀ k, k ∈ c :: R1 → k ∉ a :: b :: d :: R2 := by
      intro k hk hk'
      have hkk : k ∈ d :: b :: c :: R1 := List.mem_cons_of_mem _ (List.mem_cons_of_mem _ hk)
      rcases List.mem_cons.mp hk' with g | g
      · exact c1 k (List.mem_append_right _ (List.mem_singleton.mpr g)) hkk
      · rcases List.mem_cons.mp g with g | g
        · rcases List.mem_cons.mp hk with h | h
          · exact n2 (by rw [← g, h]; exact List.mem_cons_self)
          · exact n2 (by rw [← g]; exact List.mem_cons_of_mem _ (List.mem_append_left _ h))
        · rcases List.mem_cons.mp g with g | g
          · rcases List.mem_cons.mp hk with h | h
            · exact n3 (by rw [← h, g]; exact hdR)
            · exact n8 k h d List.mem_cons_self g
          · exact c1 k (List.mem_append_left _ g) hkk
    -- from a part to the whole
    have up : ∀ {Q C : List (Int × Int)} {F : List ((Int × Int) × (Int × Int))} {u v : Int × Int}, gm_ok (gm_C Q) → (gm_C Q).Perm ((u, v) :: F) → (gm_C (a :: b :: c :: (R1 ++ d :: R2))).Perm (F ++ gm_E u (C ++ [v])) → (∀ f, f ∈ F → f ∈ gm_C (a :: b :: c :: (R1 ++ d :: R2))) → (∀ k, k ∈ C → k ∈ a :: b :: c :: (R1 ++ d :: R2)) → (∀ k, k ∈ C → gm_w (gm_C Q) k = 0) → (∀ k, k ∈ C → k ∉ Q) → gm_ok (gm_C (v :: u :: C)) → (∀ k, k ∈ Q → k ≠ u → k ≠ v → gm_w (gm_C (v :: u :: C)) k = 0) → gm_en Q → ∃ a' e' c' R', gm_ear (a :: b :: c :: (R1 ++ d :: R2)) a' e' c' R' ∧ e' ∈ Q ∧ e' ≠ u ∧ e' ≠ v := by
      intro Q C F u v okQ hQ hP hF hCm hw0 hCQ okC hw1 hen
      obtain ⟨a', e', c', R', ⟨p1, p2, p3, p4⟩, p5, p6⟩ := hen u v (hQ.mem_iff.mpr List.mem_cons_self)
      obtain ⟨R'', g1, g2, g3⟩ := gm_lift hQ hP p1 p5 p6
      have heQ : e' ∈ Q := (gm_mem p1 e').mpr (List.mem_cons_of_mem _ List.mem_cons_self)
      refine ⟨a', e', c', R'', ⟨g1, p2, ?_, ?_⟩, heQ, p5, p6⟩
      · intro k hk hin
        rcases g2 k hk with h | h
        · exact p3 k h hin
        · have hw := hw0 k h
          have okQ' := gm_ok_perm p1 okQ
          -- k is on no side of the part
          obtain ⟨k', hk'⟩ := gm_C_from (hCm k h)
          obtain ⟨k2, hk2⟩ := gm_C_from (P := v :: u :: C) (List.mem_cons_of_mem _ (List.mem_cons_of_mem _ h))
          have hside : ∀ f, f ∈ gm_C (a' :: e' :: c' :: R') → ¬ gm_on f.1 f.2 k := by
            intro f hf ho
            have hfQ : f ∈ gm_C Q := p1.mem_iff.mpr hf
            have e1 : f.1 ∈ Q := by
              have := List.mem_map_of_mem (f := Prod.fst) hfQ
              rw [gm_C_fst] at this; exact this
            have e2 : f.2 ∈ Q := gm_C_snd hfQ
            rcases List.mem_cons.mp (hQ.mem_iff.mp hfQ) with q | q
            · rw [q] at ho e1 e2
              rcases gm_CO okC hk2 (show (v, u) ∈ gm_C (v :: u :: C) from List.mem_cons_self) (gm_on_swap.mp ho) with q | q
              · exact hCQ k h (by rw [q]; exact e2)
              · exact hCQ k h (by rw [q]; exact e1)
            · rcases gm_CO hS hk' (show (f.1, f.2) ∈ _ from hF f q) ho with q | q
              · exact hCQ k h (by rw [q]; exact e1)
              · exact hCQ k h (by rw [q]; exact e2)
          have z1 : gm_X a' e' k ≠ 0 := fun hz => hside (a', e') List.mem_cons_self (gm_in_on p2 hin hz)
          have z2 : gm_X e' c' k ≠ 0 := fun hz => hside (e', c') (List.mem_cons_of_mem _ List.mem_cons_self) (gm_in_on (c := a') (by rw [gm_Xrot a' e' c']; exact p2) (gm_in_rot.mpr hin) hz)
          have hval : gm_w (gm_C (a' :: e' :: c' :: R')) k = gm_u (gm_X a' e' c') := by
            by_cases hR' : R' = []
            · subst hR'
              have h0 : ∀ z, gm_w (gm_C [a', e', c']) z = gm_cr z a' e' + gm_cr z e' c' + gm_cr z c' a' := by
                intro z
                show gm_cr z a' e' + (gm_cr z e' c' + (gm_cr z c' a' + 0)) = _
                omega
              rw [h0]
              have hj := gm_tloc p2 hin z1 z2
              have z3 : gm_X c' a' k ≠ 0 := fun hz => hside (c', a') (List.mem_cons_of_mem _ (List.mem_cons_of_mem _ List.mem_cons_self)) (gm_in_on (a := c') (e := a') (c := e') (by rw [← gm_Xrot c' a' e']; exact p2) (gm_in_rot.mp hin) hz)
              have hJ : gm_J e' k a' c' = 0 := by
                refine Classical.byContradiction (fun hJ => ?_)
                have := gm_J_cross hJ
                have e1 : gm_X a' c' e' = - gm_X a' e' c' := by unfold gm_X; grind
                have e2 : gm_X a' c' k = - gm_X c' a' k := gm_Xswap c' a' k
                have hs := gm_X3 a' e' c' k
                unfold gm_in at hin
                omega
              omega
            · exact gm_ear_in okQ' hR' p2 p3 p4 hin z1 z2
          rw [gm_w_perm p1 k, hval] at hw
          exact gm_u_ne _ hw
      · rw [g3, p4, hw1 e' heQ p5 p6]; rfl
    have rotQ2 : (gm_C (b :: d :: (R2 ++ [a]))).Perm (gm_C (a :: b :: d :: R2)) := gm_C_rot (b :: d :: R2) [a]
    have eQ1 : gm_C (d :: b :: c :: R1) = (d, b) :: (b, c) :: gm_E c (R1 ++ [d]) := rfl
    have eQ2 : gm_C (a :: b :: d :: R2) = (a, b) :: (b, d) :: gm_E d (R2 ++ [a]) := rfl
    have mA1 : ∀ f, f ∈ gm_E c (R1 ++ [d]) → f ∈ gm_C (a :: b :: c :: (R1 ++ d :: R2)) := by
      intro f hf; rw [eP]; exact List.mem_cons_of_mem _ (List.mem_cons_of_mem _ (List.mem_append_left _ hf))
    have mA2 : ∀ f, f ∈ gm_E d (R2 ++ [a]) → f ∈ gm_C (a :: b :: c :: (R1 ++ d :: R2)) := by
      intro f hf; rw [eP]; exact List.mem_cons_of_mem _ (List.mem_cons_of_mem _ (List.mem_append_right _ hf))
    have mab : (a, b) ∈ gm_C (a :: b :: c :: (R1 ++ d :: R2)) := List.mem_cons_self
    have mbc : (b, c) ∈ gm_C (a :: b :: c :: (R1 ++ d :: R2)) := List.mem_cons_of_mem _ List.mem_cons_self
    have mC2 : ∀ k, k ∈ R2 ++ [a] → k ∈ a :: b :: c :: (R1 ++ d :: R2) := by
      intro k hk
      rcases List.mem_append.mp hk with h | h
      · exact List.mem_cons_of_mem _ (List.mem_cons_of_mem _ (List.mem_cons_of_mem _ (List.mem_append_right _ (List.mem_cons_of_mem _ h))))
      · rw [List.mem_singleton.mp h]; exact List.mem_cons_self
    have mC1 : ∀ k, k ∈ c :: R1 → k ∈ a :: b :: c :: (R1 ++ d :: R2) := by
      intro k hk
      rcases List.mem_cons.mp hk with h | h
      · rw [h]; exact List.mem_cons_of_mem _ (List.mem_cons_of_mem _ List.mem_cons_self)
      · exact List.mem_cons_of_mem _ (List.mem_cons_of_mem _ (List.mem_cons_of_mem _ (List.mem_append_left _ h)))
    have up1 := up (Q := d :: b :: c :: R1) (C := R2 ++ [a]) (F := (b, c) :: gm_E c (R1 ++ [d])) (u := d) (v := b) ok1 (List.Perm.refl _)
      (by
        rw [eP, List.append_assoc]
        show List.Perm _ ((b, c) :: gm_E c (R1 ++ [d]) ++ gm_E d (R2 ++ a :: [b]))
        rw [gm_E_app R2 d a [b]]
        have h1 : ((a, b) :: (b, c) :: (gm_E c (R1 ++ [d]) ++ gm_E d (R2 ++ [a]))).Perm (((b, c) :: (gm_E c (R1 ++ [d]) ++ gm_E d (R2 ++ [a]))) ++ [(a, b)]) := List.perm_append_comm (l₁ := [(a, b)])
        refine h1.trans ?_
        rw [List.cons_append, List.cons_append, List.append_assoc]
        exact List.Perm.refl _)
      (fun f hf => by
        rcases List.mem_cons.mp hf with h | h
        · rw [h]; exact mbc
        · exact mA1 f h) mC2 w1 c1 (gm_ok_perm rotQ2.symm ok2)
      (fun k hk h1 h2 => by
        rw [gm_w_perm rotQ2 k]
        refine w2 k ?_
        rcases List.mem_cons.mp hk with h | h
        · exact absurd h h1
        · rcases List.mem_cons.mp h with h | h
          · exact absurd h h2
          · exact h) i1
    have up2 := up (Q := a :: b :: d :: R2) (C := c :: R1) (F := (a, b) :: gm_E d (R2 ++ [a])) (u := b) (v := d) ok2 (List.Perm.swap _ _ _)
      (by
        rw [eP]
        show List.Perm _ (((a, b) :: gm_E d (R2 ++ [a])) ++ (b, c) :: gm_E c (R1 ++ [d]))
        rw [List.cons_append]
        refine List.Perm.cons _ ?_
        exact (List.perm_append_comm (l₁ := (b, c) :: gm_E c (R1 ++ [d])) (l₂ := gm_E d (R2 ++ [a]))))
      (fun f hf => by
        rcases List.mem_cons.mp hf with h | h
        · rw [h]; exact mab
        · exact mA2 f h) mC1 w2 c2 ok1
      (fun k hk h1 h2 => by
        refine w1 k ?_
        rcases List.mem_cons.mp hk with h | h
        · rw [h]; exact List.mem_append_right _ List.mem_cons_self
        · rcases List.mem_cons.mp h with h | h
          · exact absurd h h1
          · rcases List.mem_cons.mp h with h | h
            · exact absurd h h2
            · exact List.mem_append_left _ h) i2
    obtain ⟨a1, e1, c1', r1, ear1, q1, q2, q3⟩ := up1
    obtain ⟨a2, e2, c2', r2, ear2, q4, q5, q6⟩ := up2
    have q1' : e1 ∈ c :: R1 := by
      rcases List.mem_cons.mp q1 with h | h
      · exact absurd h q2
      · rcases List.mem_cons.mp h with h | h
        · exact absurd h q3
        · exact h
    have q4' : e2 ∈ R2 ++ [a] := by
      rcases List.mem_cons.mp q4 with h | h
      · rw [h]; exact List.mem_append_right _ List.mem_cons_self
      · rcases List.mem_cons.mp h with h | h
        · exact absurd h q5
        · rcases List.mem_cons.mp h with h | h
          · exact absurd h q6
          · exact List.mem_append_left _ h
    intro f g hfg
    rw [eP] at hfg
    have use1 : f ∈ a :: b :: d :: R2 → g ∈ a :: b :: d :: R2 → ∃ a' e c' R, gm_ear (a :: b :: c :: (R1 ++ d :: R2)) a' e c' R ∧ e ≠ f ∧ e ≠ g :=
      fun h1 h2 => ⟨a1, e1, c1', r1, ear1, fun h => c2 e1 q1' (by rw [h]; exact h1), fun h => c2 e1 q1' (by rw [h]; exact h2)⟩
    have use2 : f ∈ d :: b :: c :: R1 → g ∈ d :: b :: c :: R1 → ∃ a' e c' R, gm_ear (a :: b :: c :: (R1 ++ d :: R2)) a' e c' R ∧ e ≠ f ∧ e ≠ g :=
      fun h1 h2 => ⟨a2, e2, c2', r2, ear2, fun h => c1 e2 q4' (by rw [h]; exact h1), fun h => c1 e2 q4' (by rw [h]; exact h2)⟩
    rcases List.mem_cons.mp hfg with h | h
    · rw [Prod.mk.injEq] at h
      exact use1 (by rw [h.1]; exact List.mem_cons_self) (by rw [h.2]; exact List.mem_cons_of_mem _ List.mem_cons_self)
    · rcases List.mem_cons.mp h with h | h
      · rw [Prod.mk.injEq] at h
        exact use2 (by rw [h.1]; exact List.mem_cons_of_mem _ List.mem_cons_self) (by rw [h.2]; exact List.mem_cons_of_mem _ (List.mem_cons_of_mem _ List.mem_cons_self))
      · rcases List.mem_append.mp h with h | h
        · obtain ⟨m1, m2⟩ := gm_E_mem R1 h
          refine use2 ?_ ?_
          · rcases m1 with m | m
            · rw [show f = c from m]; exact List.mem_cons_of_mem _ (List.mem_cons_of_mem _ List.mem_cons_self)
            · exact List.mem_cons_of_mem _ (List.mem_cons_of_mem _ (List.mem_cons_of_mem _ m))
          · rcases m2 with m | m
            · exact List.mem_cons_of_mem _ (List.mem_cons_of_mem _ (List.mem_cons_of_mem _ m))
            · rw [show g = d from m]; exact List.mem_cons_self
        · obtain ⟨m1, m2⟩ := gm_E_mem R2 h
          refine use1 ?_ ?_
          · rcases m1 with m | m
            · rw [show f = d from m]; exact List.mem_cons_of_mem _ (List.mem_cons_of_mem _ List.mem_cons_self)
            · exact List.mem_cons_of_mem _ (List.mem_cons_of_mem _ (List.mem_cons_of_mem _ m))
          · rcases m2 with m | m
            · exact List.mem_cons_of_mem _ (List.mem_cons_of_mem _ (List.mem_cons_of_mem _ m))
            · rw [show g = a from m]; exact List.mem_cons_self
  · have hE' : ∀ k, k ∈ R → ¬ gm_in a b c k := fun k hk h => hE ⟨k, hk, h⟩
    have okQ := gm_cut hS hR hD hE'
    have lQ : (a :: c :: R).length < (a :: b :: c :: R).length := by simp only [List.length_cons]; omega
    have l3 : 3 ≤ (a :: c :: R).length := by
      cases R with
      | nil => exact absurd rfl hR
      | cons r R => simp only [List.length_cons]; omega
    have i1 := (hIH _ lQ l3 okQ).2
    have hb0 : gm_w (gm_C (a :: c :: R)) b = 0 := by
      refine gm_sm_zero (fun f hf => gm_top ?_ ?_)
      · have := List.mem_map_of_mem (f := Prod.fst) hf
        rw [gm_C_fst] at this
        exact Or.inr (hlt _ this)
      · exact Or.inr (hlt _ (gm_C_snd hf))
    have ear0 : gm_ear (a :: b :: c :: R) a b c R := ⟨List.Perm.refl _, hD, hE', hb0⟩
    obtain ⟨a', e', c', R', ⟨p1, p2, p3, p4⟩, p5, p6⟩ := i1 a c List.mem_cons_self
    obtain ⟨R'', g1, g2, g3⟩ := gm_lift (P := a :: b :: c :: R) (Q := a :: c :: R) (C := [b]) (F := gm_E c (R ++ [a])) (u := a) (v := c) (List.Perm.refl _) (List.perm_append_comm (l₁ := [(a, b), (b, c)]) (l₂ := gm_E c (R ++ [a]))) p1 p5 p6
    have mm := gm_mem p1
    have ltm : ∀ k, k ∈ a' :: e' :: c' :: R' → gm_lt k b := fun k hk => hlt k ((mm k).mpr hk)
    have heQ : e' ∈ a :: c :: R := (mm e').mpr (List.mem_cons_of_mem _ List.mem_cons_self)
    have heR : e' ∈ R := by
      rcases List.mem_cons.mp heQ with h | h
      · exact absurd h p5
      · rcases List.mem_cons.mp h with h | h
        · exact absurd h p6
        · exact h
    have ear1 : gm_ear (a :: b :: c :: R) a' e' c' R'' := by
      refine ⟨g1, p2, ?_, ?_⟩
      · intro k hk hin
        rcases g2 k hk with h | h
        · exact p3 k h hin
        · rw [List.mem_singleton.mp h] at hin
          exact gm_top_in p2 (ltm a' List.mem_cons_self) (ltm e' (List.mem_cons_of_mem _ List.mem_cons_self)) (ltm c' (List.mem_cons_of_mem _ (List.mem_cons_of_mem _ List.mem_cons_self))) hin
      · rw [g3, p4]
        have h0 : gm_w (gm_C [c, a, b]) e' = gm_cr e' c a + (gm_cr e' a b + (gm_cr e' b c + 0)) := rfl
        have := gm_tout hD (hE' e' heR)
        rw [h0]; omega
    intro f g hfg
    by_cases hb : b ≠ f ∧ b ≠ g
    · exact ⟨a, b, c, R, ear0, hb⟩
    · have hfg' : f ∈ [a, b, c] ∧ g ∈ [a, b, c] := by
        rw [gm_C3] at hfg
        rcases List.mem_cons.mp hfg with h | h
        · rw [Prod.mk.injEq] at h
          rw [h.1, h.2]
          exact ⟨List.mem_cons_self, List.mem_cons_of_mem _ List.mem_cons_self⟩
        · rcases List.mem_cons.mp h with h | h
          · rw [Prod.mk.injEq] at h
            rw [h.1, h.2]
            exact ⟨List.mem_cons_of_mem _ List.mem_cons_self, List.mem_cons_of_mem _ (List.mem_cons_of_mem _ List.mem_cons_self)⟩
          · exfalso
            obtain ⟨m1, m2⟩ := gm_E_mem R h
            refine hb ⟨?_, ?_⟩
            · rintro rfl
              rcases m1 with m | m
              · exact n2 (by rw [show b = c from m]; exact List.mem_cons_self)
              · exact n2 (List.mem_cons_of_mem _ m)
            · rintro rfl
              rcases m2 with m | m
              · exact n2 (List.mem_cons_of_mem _ m)
              · exact n1 (by rw [← show b = a from m]; exact List.mem_cons_self)
      have heb : e' ≠ b := fun h => n2 (by rw [← h]; exact List.mem_cons_of_mem _ heR)
      have hne : ∀ k, k ∈ [a, b, c] → e' ≠ k := by
        intro k hk
        simp only [List.mem_cons, List.not_mem_nil, or_false] at hk
        rcases hk with rfl | rfl | rfl
        · exact p5
        · exact heb
        · exact p6
      exact ⟨a', e', c', R'', ear1, hne f hfg'.1, hne g hfg'.2⟩
/-- every polygon: its sides go round once or not at all, and there are ears -/
theorem gm_main (m : Nat) : ∀ P : List (Int × Int), P.length ≤ m → 3 ≤ P.length → gm_ok (gm_C P) → gm_jn (gm_C P) ∧ gm_en P := by
  induction m with
  | zero => intro P h1 h2; omega
  | succ m ih =>
    intro P h1 h3 hS
    by_cases hl : P.length = 3
    · obtain ⟨a, P, rfl⟩ : ∃ a P', P = a :: P' := by cases P with | nil => simp at hl | cons a P => exact ⟨a, P, rfl⟩
      obtain ⟨e, P, rfl⟩ : ∃ a P', P = a :: P' := by cases P with | nil => simp at hl | cons a P => exact ⟨a, P, rfl⟩
      obtain ⟨c, P, rfl⟩ : ∃ a P', P = a :: P' := by cases P with | nil => simp at hl | cons a P => exact ⟨a, P, rfl⟩
      have : P = [] := List.eq_nil_of_length_eq_zero (by simp only [List.length_cons] at hl; omega)
      subst this
      exact ⟨(gm_tri3 hS).2, gm_tri3_en hS⟩
    · have hen : gm_en P := by
        obtain ⟨b, hb, hgr⟩ := gm_great P (by intro h; rw [h] at h3; simp at h3)
        obtain ⟨A, B, hAB⟩ := List.append_of_mem hb
        have r1 : (gm_C P).Perm (gm_C ((b :: B) ++ A)) := by rw [hAB]; exact gm_C_rot A (b :: B)
        have hl1 := gm_len r1
        rw [List.cons_append] at r1 hl1
        generalize B ++ A = T at r1 hl1
        cases T with
        | nil => simp only [List.length_cons, List.length_nil] at hl1; omega
        | cons c T =>
          rcases List.eq_nil_or_concat T with hT | ⟨R, a, hT⟩
          · rw [hT] at hl1; simp only [List.length_cons, List.length_nil] at hl1; omega
          · have hT' : T = R ++ [a] := by rw [hT, List.concat_eq_append]
            subst hT'
            have r2 : (gm_C P).Perm (gm_C (a :: b :: c :: R)) := r1.trans (gm_C_rot (b :: c :: R) [a])
            have hl2 := gm_len r2
            have hS2 := gm_ok_perm r2 hS
            refine gm_en_perm r2 (gm_step ?_ hS2 ?_ ?_)
            · intro h; rw [h] at hl2; simp only [List.length_cons, List.length_nil] at hl2; omega
            · intro k hk
              have hN := gm_ok_nodup hS2
              rw [List.nodup_cons, List.nodup_cons] at hN
              have hkb : k ≠ b := by
                rintro rfl
                rcases List.mem_cons.mp hk with h | h
                · exact hN.1 (by rw [← h]; exact List.mem_cons_self)
                · exact hN.2.1 h
              have hkm : k ∈ a :: b :: c :: R := by
                rcases List.mem_cons.mp hk with h | h
                · rw [h]; exact List.mem_cons_self
                · exact List.mem_cons_of_mem _ (List.mem_cons_of_mem _ h)
              exact (hgr k ((gm_mem r2 k).mpr hkm)).resolve_left hkb
            · intro Q h4 h5 h6
              exact ih Q (by omega) h5 h6
      refine ⟨?_, hen⟩
      obtain ⟨p, hp⟩ : ∃ p, p ∈ P := by cases P with | nil => simp at h3 | cons a P => exact ⟨a, List.mem_cons_self⟩
      obtain ⟨q, hq⟩ := gm_C_from hp
      obtain ⟨a, e, c, R, ⟨p1, p2, p3, p4⟩, -⟩ := hen p q hq
      have hl2 := gm_len p1
      have hR : R ≠ [] := by intro h; rw [h] at hl2; simp only [List.length_cons, List.length_nil] at hl2; omega
      have hS2 := gm_ok_perm p1 hS
      have okQ := gm_cut hS2 hR p2 p3
      have hlR : 1 ≤ R.length := by
        cases R with
        | nil => exact absurd rfl hR
        | cons r R => simp only [List.length_cons]; omega
      refine gm_jn_perm p1.symm (gm_EJ hS2 hR p2 p3 p4 (fun N hN => ?_)).1
      refine (ih _ ?_ ?_ (gm_ok_c hN okQ)).1
      · rw [List.length_map]; simp only [List.length_cons] at hl2 ⊢; omega
      · rw [List.length_map]; simp only [List.length_cons] at hl2 ⊢; omega
end RZG13
