/-! part 97za07: simple polygons: ways round -/
section RZG07
abbrev gm_s := (Int × Int) × (Int × Int)
def gm_sm (f : (Int × Int) × (Int × Int) → Int) : List ((Int × Int) × (Int × Int)) → Int
  | [] => 0
  | e :: E => f e + gm_sm f E
theorem gm_sm_app (f : (Int × Int) × (Int × Int) → Int) (A B : List ((Int × Int) × (Int × Int))) : gm_sm f (A ++ B) = gm_sm f A + gm_sm f B := by
  induction A with
  | nil => show gm_sm f B = 0 + gm_sm f B; omega
  | cons a A ih => show f a + gm_sm f (A ++ B) = f a + gm_sm f A + gm_sm f B; omega
theorem gm_sm_perm (f : (Int × Int) × (Int × Int) → Int) {A B : List ((Int × Int) × (Int × Int))} (h : A.Perm B) : gm_sm f A = gm_sm f B := by
  induction h with
  | nil => rfl
  | cons x _ ih => show f x + _ = f x + _; omega
  | swap x y l => show f y + (f x + _) = f x + (f y + _); omega
  | trans _ _ ih1 ih2 => omega
theorem gm_sm_cong {f g : (Int × Int) × (Int × Int) → Int} {A : List ((Int × Int) × (Int × Int))} (h : ∀ e, e ∈ A → f e = g e) : gm_sm f A = gm_sm g A := by
  induction A with
  | nil => rfl
  | cons a A ih =>
    show f a + gm_sm f A = g a + gm_sm g A
    rw [h a List.mem_cons_self, ih (fun e he => h e (List.mem_cons_of_mem _ he))]
theorem gm_sm_zero {f : (Int × Int) × (Int × Int) → Int} {A : List ((Int × Int) × (Int × Int))} (h : ∀ e, e ∈ A → f e = 0) : gm_sm f A = 0 := by
  induction A with
  | nil => rfl
  | cons a A ih =>
    show f a + gm_sm f A = 0
    rw [h a List.mem_cons_self, ih (fun e he => h e (List.mem_cons_of_mem _ he))]; rfl
theorem gm_sq (x : Int) : 0 ≤ x * x ∧ (x * x = 0 → x = 0) := by
  refine ⟨?_, fun h => ?_⟩
  · rcases Int.le_total 0 x with h | h
    · exact Int.mul_nonneg h h
    · exact Int.mul_nonneg_of_nonpos_of_nonpos h h
  · rcases Int.mul_eq_zero.mp h with h | h <;> exact h
theorem gm_sm_add (f g : (Int × Int) × (Int × Int) → Int) (A : List ((Int × Int) × (Int × Int))) : gm_sm (fun e => f e + g e) A = gm_sm f A + gm_sm g A := by
  induction A with
  | nil => rfl
  | cons a A ih =>
    show f a + g a + gm_sm _ A = f a + gm_sm f A + (g a + gm_sm g A)
    rw [ih]; omega
/-- how often the sides go round a place -/
def gm_w (E : List ((Int × Int) × (Int × Int))) (z : Int × Int) : Int := gm_sm (fun e => gm_cr z e.1 e.2) E
/-- twice the area -/
def gm_ar (E : List ((Int × Int) × (Int × Int))) : Int := gm_sm (fun e => e.1.1 * e.2.2 - e.1.2 * e.2.1) E
/-- the sides of a way -/
def gm_E : (Int × Int) → List (Int × Int) → List ((Int × Int) × (Int × Int))
  | _, [] => []
  | p, q :: L => (p, q) :: gm_E q L
/-- the sides of a way round -/
def gm_C : List (Int × Int) → List ((Int × Int) × (Int × Int))
  | [] => []
  | p :: L => gm_E p (L ++ [p])
theorem gm_E_app (A : List (Int × Int)) : ∀ (p m : Int × Int) (B : List (Int × Int)), gm_E p (A ++ m :: B) = gm_E p (A ++ [m]) ++ gm_E m B := by
  induction A with
  | nil => intro p m B; rfl
  | cons a A ih => intro p m B; show (p, a) :: gm_E a (A ++ m :: B) = (p, a) :: (gm_E a (A ++ [m]) ++ gm_E m B); rw [ih]
theorem gm_C_rot (A B : List (Int × Int)) : (gm_C (A ++ B)).Perm (gm_C (B ++ A)) := by
  cases A with
  | nil => rw [List.nil_append, List.append_nil]
  | cons a A =>
    cases B with
    | nil => rw [List.nil_append, List.append_nil]
    | cons b B =>
      have e1 : gm_C (a :: A ++ b :: B) = gm_E a (A ++ [b]) ++ gm_E b (B ++ [a]) := by
        show gm_E a ((A ++ b :: B) ++ [a]) = _
        rw [List.append_assoc, List.cons_append, gm_E_app]
      have e2 : gm_C (b :: B ++ a :: A) = gm_E b (B ++ [a]) ++ gm_E a (A ++ [b]) := by
        show gm_E b ((B ++ a :: A) ++ [b]) = _
        rw [List.append_assoc, List.cons_append, gm_E_app]
      rw [e1, e2]
      exact List.perm_append_comm
theorem gm_E_tel (g : Int × Int → Int) (L : List (Int × Int)) : ∀ (p q : Int × Int), gm_sm (fun e => g e.2 - g e.1) (gm_E p (L ++ [q])) = g q - g p := by
  induction L with
  | nil => intro p q; show g q - g p + 0 = g q - g p; omega
  | cons a L ih => intro p q; show g a - g p + gm_sm _ (gm_E a (L ++ [q])) = g q - g p; rw [ih]; omega
theorem gm_C_tel (g : Int × Int → Int) (P : List (Int × Int)) : gm_sm (fun e => g e.2 - g e.1) (gm_C P) = 0 := by
  cases P with
  | nil => rfl
  | cons p L => show gm_sm _ (gm_E p (L ++ [p])) = 0; rw [gm_E_tel]; omega
/-- a move -/
theorem gm_mv (P : List (Int × Int)) (z w : Int × Int) : gm_w (gm_C P) z = gm_w (gm_C P) w + gm_sm (fun e => gm_J z w e.1 e.2) (gm_C P) := by
  have h := gm_C_tel (gm_g z w) P
  have e : gm_sm (fun e => gm_cr z e.1 e.2) (gm_C P) = gm_sm (fun e => (gm_cr w e.1 e.2 + gm_J z w e.1 e.2) + (gm_g z w e.2 - gm_g z w e.1)) (gm_C P) := by
    refine gm_sm_cong (fun e _ => ?_)
    have := gm_mj z w e.1 e.2
    omega
  unfold gm_w
  rw [e, gm_sm_add, gm_sm_add, h]
  omega
theorem gm_E_mem {a : Int × Int} (L : List (Int × Int)) : ∀ {p : Int × Int} {f : (Int × Int) × (Int × Int)}, f ∈ gm_E p (L ++ [a]) → (f.1 = p ∨ f.1 ∈ L) ∧ (f.2 ∈ L ∨ f.2 = a) := by
  induction L with
  | nil =>
    intro p f h
    rcases List.mem_cons.mp h with h | h
    · rw [h]; exact ⟨Or.inl rfl, Or.inr rfl⟩
    · cases h
  | cons q L ih =>
    intro p f h
    rcases List.mem_cons.mp h with h | h
    · rw [h]; exact ⟨Or.inl rfl, Or.inl List.mem_cons_self⟩
    · obtain ⟨h1, h2⟩ := ih h
      refine ⟨Or.inr ?_, ?_⟩
      · rcases h1 with h1 | h1
        · rw [h1]; exact List.mem_cons_self
        · exact List.mem_cons_of_mem _ h1
      · rcases h2 with h2 | h2
        · exact Or.inl (List.mem_cons_of_mem _ h2)
        · exact Or.inr h2
theorem gm_E_fst {a : Int × Int} (L : List (Int × Int)) : ∀ (p : Int × Int), (gm_E p (L ++ [a])).map Prod.fst = p :: L := by
  induction L with
  | nil => intro p; rfl
  | cons q L ih => intro p; show p :: (gm_E q (L ++ [a])).map Prod.fst = _; rw [ih]
theorem gm_C_fst (P : List (Int × Int)) : (gm_C P).map Prod.fst = P := by
  cases P with
  | nil => rfl
  | cons p L => exact gm_E_fst L p
theorem gm_C_from {P : List (Int × Int)} {k : Int × Int} (h : k ∈ P) : ∃ k', (k, k') ∈ gm_C P := by
  rw [← gm_C_fst P] at h
  obtain ⟨f, h1, h2⟩ := List.mem_map.mp h
  exact ⟨f.2, by rw [← h2]; exact h1⟩
theorem gm_C_len (P : List (Int × Int)) : (gm_C P).length = P.length := by
  rw [← List.length_map (f := Prod.fst), gm_C_fst]
/-- going back -/
def gm_fold (p m q : Int × Int) : Prop := gm_X p m q = 0 ∧ (p.1 - m.1) * (q.1 - m.1) + (p.2 - m.2) * (q.2 - m.2) > 0
theorem gm_fold_sym {p m q : Int × Int} : gm_fold q m p ↔ gm_fold p m q := by
  unfold gm_fold
  have e : gm_X q m p = - gm_X p m q := gm_Xm p m q
  have e2 : (q.1 - m.1) * (p.1 - m.1) + (q.2 - m.2) * (p.2 - m.2) = (p.1 - m.1) * (q.1 - m.1) + (p.2 - m.2) * (q.2 - m.2) := by grind
  rw [e, e2]; omega
/-- two sides go well together -/
def gm_o2 (e f : (Int × Int) × (Int × Int)) : Prop := (e.2 = f.1 ∧ ¬ gm_fold e.1 e.2 f.2) ∨ (f.2 = e.1 ∧ ¬ gm_fold f.1 f.2 e.2) ∨ ¬ gm_hit e.1 e.2 f.1 f.2
theorem gm_o2_sym {e f : (Int × Int) × (Int × Int)} (h : gm_o2 e f) : gm_o2 f e := by
  rcases h with h | h | h
  · exact Or.inr (Or.inl h)
  · exact Or.inl h
  · exact Or.inr (Or.inr (fun c => h (gm_hit_sym.mp c)))
def gm_ok (E : List ((Int × Int) × (Int × Int))) : Prop := (∀ e, e ∈ E → e.1 ≠ e.2) ∧ E.Pairwise gm_o2
theorem gm_ok_perm {A B : List ((Int × Int) × (Int × Int))} (h : A.Perm B) (hA : gm_ok A) : gm_ok B :=
  ⟨fun e he => hA.1 e (h.mem_iff.mpr he), (h.pairwise_iff (fun h => gm_o2_sym h)).mp hA.2⟩
theorem gm_pw {E : List ((Int × Int) × (Int × Int))} (h : E.Pairwise gm_o2) {e f : (Int × Int) × (Int × Int)} (he : e ∈ E) (hf : f ∈ E) (hne : e ≠ f) : gm_o2 e f := by
  induction E with
  | nil => cases he
  | cons a E ih =>
    rw [List.pairwise_cons] at h
    rcases List.mem_cons.mp he with h1 | h1
    · rcases List.mem_cons.mp hf with h2 | h2
      · exact absurd (h1.trans h2.symm) hne
      · rw [h1]; exact h.1 f h2
    · rcases List.mem_cons.mp hf with h2 | h2
      · rw [h2]; exact gm_o2_sym (h.1 e h1)
      · exact ih h.2 h1 h2
theorem gm_on_l (p q : Int × Int) : gm_on p q p := ⟨(gm_X0 p q).1, ⟨Int.min_le_left _ _, Int.le_max_left _ _⟩, ⟨Int.min_le_left _ _, Int.le_max_left _ _⟩⟩
theorem gm_on_r (p q : Int × Int) : gm_on p q q := ⟨(gm_X0 p q).2.1, ⟨Int.min_le_right _ _, Int.le_max_right _ _⟩, ⟨Int.min_le_right _ _, Int.le_max_right _ _⟩⟩
theorem gm_o2_ne {e f : (Int × Int) × (Int × Int)} (he : e.1 ≠ e.2) (hf : f.1 ≠ f.2) (h : gm_o2 e f) : e.1 ≠ f.1 ∧ e.2 ≠ f.2 := by
  constructor
  · intro c
    rcases h with h | h | h
    · exact he (c.trans h.1.symm)
    · exact hf (c.symm.trans h.1.symm)
    · exact h (Or.inl (Or.inl (by rw [← c]; exact gm_on_l _ _)))
  · intro c
    rcases h with h | h | h
    · exact hf (h.1.symm.trans c)
    · exact he (h.1.symm.trans c.symm)
    · exact h (Or.inl (Or.inr (Or.inl (by rw [← c]; exact gm_on_r _ _))))
theorem gm_ok_nodup {P : List (Int × Int)} (h : gm_ok (gm_C P)) : P.Nodup := by
  rw [← gm_C_fst P]
  refine (List.pairwise_map).mpr ?_
  obtain ⟨h1, h2⟩ := h
  generalize gm_C P = E at *
  induction E with
  | nil => exact List.Pairwise.nil
  | cons a E ih =>
    rw [List.pairwise_cons] at h2 ⊢
    exact ⟨fun f hf => (gm_o2_ne (h1 a List.mem_cons_self) (h1 f (List.mem_cons_of_mem _ hf)) (h2.1 f hf)).1, ih (fun e he => h1 e (List.mem_cons_of_mem _ he)) h2.2⟩
/-- on a ray -/
theorem gm_ray {p m q : Int × Int} (h : gm_fold p m q) : gm_on m q p ∨ gm_on m p q := by
  obtain ⟨px, py⟩ := p
  obtain ⟨mx, my⟩ := m
  obtain ⟨qx, qy⟩ := q
  obtain ⟨h1, h2⟩ := h
  have h1' : (mx - px) * (qy - py) - (my - py) * (qx - px) = 0 := h1
  simp only at h2
  have c0 : (px - mx) * (qy - my) = (py - my) * (qx - mx) := by grind
  clear h1 h1'
  generalize hs : (px - mx) * (qx - mx) + (py - my) * (qy - my) = s at h2
  rcases Int.le_total s ((px - mx) * (px - mx) + (py - my) * (py - my)) with h3 | h3
  · refine Or.inr (gm_on_of (l := (px - mx) * (px - mx) + (py - my) * (py - my) - s) (m := s) (by omega) (by omega) (by omega) ?_ ?_)
    · simp only; grind
    · simp only; grind
  · have h4 : s ≤ (qx - mx) * (qx - mx) + (qy - my) * (qy - my) := by
      refine Classical.byContradiction (fun hc => ?_)
      have e : s * s = ((px - mx) * (px - mx) + (py - my) * (py - my)) * ((qx - mx) * (qx - mx) + (qy - my) * (qy - my)) := by grind
      have k0 : 0 ≤ (qx - mx) * (qx - mx) + (qy - my) * (qy - my) := by
        have := (gm_sq (qx - mx)).1
        have := (gm_sq (qy - my)).1
        omega
      have k1 : ((px - mx) * (px - mx) + (py - my) * (py - my)) * ((qx - mx) * (qx - mx) + (qy - my) * (qy - my)) ≤ s * ((qx - mx) * (qx - mx) + (qy - my) * (qy - my)) := Int.mul_le_mul_of_nonneg_right h3 k0
      have k2 : s * ((qx - mx) * (qx - mx) + (qy - my) * (qy - my)) < s * s := Int.mul_lt_mul_of_pos_left (by omega) h2
      omega
    refine Or.inl (gm_on_of (l := (qx - mx) * (qx - mx) + (qy - my) * (qy - my) - s) (m := s) (by omega) (by omega) (by omega) ?_ ?_)
    · simp only; grind
    · simp only; grind
/-- a corner that lies on a side is one of its ends -/
theorem gm_CO {E : List ((Int × Int) × (Int × Int))} (h : gm_ok E) {k k' p q : Int × Int} (hk : (k, k') ∈ E) (hp : (p, q) ∈ E) (ho : gm_on p q k) : k = p ∨ k = q := by
  by_cases he : (p, q) = (k, k')
  · exact Or.inl (Prod.mk.inj he).1.symm
  · rcases gm_pw h.2 hp hk he with ⟨h1, -⟩ | ⟨h1, h2⟩ | h1
    · exact Or.inr h1.symm
    · refine Classical.byContradiction (fun hc => ?_)
      simp only at h1 h2
      subst h1
      obtain ⟨o1, o2, o3⟩ := ho
      refine h2 ⟨?_, ?_⟩
      · rw [← o1]; unfold gm_X; grind
      · have hkp : k ≠ k' := h.1 _ hk
        obtain ⟨l, m, hl, hm, h0, w1, w2⟩ := gm_on_wt (h.1 _ hp) (show gm_on k' q k from ⟨o1, o2, o3⟩)
        simp only at w1 w2
        rcases Int.lt_or_le 0 m with hm1 | hm1
        · have e1 : (l + m) * (k.1 - k'.1) = m * (q.1 - k'.1) := by grind
          have e2 : (l + m) * (k.2 - k'.2) = m * (q.2 - k'.2) := by grind
          have hpos : 0 < (k.1 - k'.1) * (k.1 - k'.1) + (k.2 - k'.2) * (k.2 - k'.2) := by
            have s1 := gm_sq (k.1 - k'.1)
            have s2 := gm_sq (k.2 - k'.2)
            refine Classical.byContradiction (fun hc => hkp ?_)
            have t1 := s1.2 (by omega)
            have t2 := s2.2 (by omega)
            exact Prod.ext (by omega) (by omega)
          have e3 : m * ((k.1 - k'.1) * (q.1 - k'.1) + (k.2 - k'.2) * (q.2 - k'.2)) = (l + m) * ((k.1 - k'.1) * (k.1 - k'.1) + (k.2 - k'.2) * (k.2 - k'.2)) := by grind
          have := Int.mul_pos h0 hpos
          have s3 := gm_sgt hm1 ((k.1 - k'.1) * (q.1 - k'.1) + (k.2 - k'.2) * (q.2 - k'.2))
          show (k.1 - k'.1) * (q.1 - k'.1) + (k.2 - k'.2) * (q.2 - k'.2) > 0
          omega
        · exfalso
          have hm0 : m = 0 := by omega
          subst hm0
          apply hkp
          have hl0 : l ≠ 0 := by omega
          refine Prod.ext ?_ ?_
          · exact Int.eq_of_mul_eq_mul_left hl0 (by grind)
          · exact Int.eq_of_mul_eq_mul_left hl0 (by grind)
    · exact absurd (Or.inl (Or.inl ho)) h1
end RZG07
