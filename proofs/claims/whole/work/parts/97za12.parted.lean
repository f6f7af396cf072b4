/-! part 97za12: simple polygons: parted -/
section RZG12
theorem gm_o2_fold {p m q : Int × Int} (hpq : p ≠ q) (h : gm_o2 (p, m) (m, q)) : ¬ gm_fold p m q := by
  rcases h with ⟨-, h⟩ | ⟨h, -⟩ | h
  · exact h
  · exact absurd (show q = p from h).symm hpq
  · exact absurd (Or.inl (Or.inl (gm_on_r p m))) h
theorem gm_E_sub {a : Int × Int} (C : List (Int × Int)) : ∀ {p : Int × Int} {f : (Int × Int) × (Int × Int)}, f ∈ gm_E p C → f.1 ∈ p :: C ∧ f.2 ∈ C ∧ f ∈ gm_E p (C ++ [a]) := by
  induction C with
  | nil => intro p f h; cases h
  | cons q C ih =>
    intro p f h
    rcases List.mem_cons.mp h with h1 | h1
    · rw [h1]; exact ⟨List.mem_cons_self, List.mem_cons_self, List.mem_cons_self⟩
    · obtain ⟨g1, g2, g3⟩ := ih h1
      exact ⟨List.mem_cons_of_mem _ g1, List.mem_cons_of_mem _ g2, List.mem_cons_of_mem _ g3⟩
theorem gm_in_h {a e c d : Int × Int} (hD : gm_X a e c ≠ 0) (hd : gm_in a e c d) : 0 ≤ gm_u (gm_X a e c) * gm_X a e d ∧ 0 ≤ gm_u (gm_X a e c) * gm_X e c d ∧ 0 ≤ gm_u (gm_X a e c) * gm_X c a d ∧ 0 < gm_u (gm_X a e c) * gm_X a e c := by
  have hs := gm_X3 a e c d
  unfold gm_in at hd
  rcases Int.lt_or_le 0 (gm_X a e c) with h | h
  · rw [gm_u_pos h]; omega
  · rw [gm_u_neg (by omega)]; omega
set_option maxHeartbeats 4000000 in
/-- the corner that reaches farthest into the triangle of the greatest one parts the polygon -/
theorem gm_B {a b c d : Int × Int} {R1 R2 : List (Int × Int)} (hS : gm_ok (gm_C (a :: b :: c :: (R1 ++ d :: R2)))) (hD : gm_X a b c ≠ 0) (hd : gm_in a b c d) (hmax : ∀ k, k ∈ R1 ++ d :: R2 → gm_in a b c k → gm_u (gm_X a b c) * gm_X c a k ≤ gm_u (gm_X a b c) * gm_X c a d) (hlt : ∀ k, k ∈ a :: c :: (R1 ++ d :: R2) → gm_lt k b) :
    gm_ok (gm_C (d :: b :: c :: R1)) ∧ gm_ok (gm_C (a :: b :: d :: R2)) ∧ (∀ k, k ∈ R2 ++ [a] → gm_w (gm_C (d :: b :: c :: R1)) k = 0) ∧ (∀ k, k ∈ c :: R1 → gm_w (gm_C (a :: b :: d :: R2)) k = 0) := by
  have hN := gm_ok_nodup hS
  rw [List.nodup_cons, List.nodup_cons, List.nodup_cons, List.nodup_append, List.nodup_cons] at hN
  obtain ⟨n1, n2, n3, n4, ⟨n5, n6⟩, n7⟩ := hN
  have eP : gm_C (a :: b :: c :: (R1 ++ d :: R2)) = (a, b) :: (b, c) :: (gm_E c (R1 ++ [d]) ++ gm_E d (R2 ++ [a])) := by
    rw [gm_C3, List.append_assoc, List.cons_append, gm_E_app]
  have hfrom : ∀ k, k ∈ a :: b :: c :: (R1 ++ d :: R2) → ∃ k', (k, k') ∈ gm_C (a :: b :: c :: (R1 ++ d :: R2)) := fun k hk => gm_C_from hk
  have memd : d ∈ R1 ++ d :: R2 := List.mem_append_right _ List.mem_cons_self
  have mR1 : ∀ k, k ∈ R1 → k ∈ R1 ++ d :: R2 := fun k hk => List.mem_append_left _ hk
  have mR2 : ∀ k, k ∈ R2 → k ∈ R1 ++ d :: R2 := fun k hk => List.mem_append_right _ (List.mem_cons_of_mem _ hk)
  have mc2 : ∀ {k}, k ∈ R1 ++ d :: R2 → k ∈ a :: b :: c :: (R1 ++ d :: R2) := fun hk => List.mem_cons_of_mem _ (List.mem_cons_of_mem _ (List.mem_cons_of_mem _ hk))
  -- corners are unlike each other
  have ab : a ≠ b := fun h => n1 (by rw [h]; exact List.mem_cons_self)
  have ac : a ≠ c := fun h => n1 (by rw [h]; exact List.mem_cons_of_mem _ List.mem_cons_self)
  have aR : ∀ k, k ∈ R1 ++ d :: R2 → k ≠ a := fun k hk h => n1 (by rw [← h]; exact List.mem_cons_of_mem _ (List.mem_cons_of_mem _ hk))
  have bc : b ≠ c := fun h => n2 (by rw [h]; exact List.mem_cons_self)
  have bR : ∀ k, k ∈ R1 ++ d :: R2 → k ≠ b := fun k hk h => n2 (by rw [← h]; exact List.mem_cons_of_mem _ hk)
  have cR : ∀ k, k ∈ R1 ++ d :: R2 → k ≠ c := fun k hk h => n3 (by rw [← h]; exact hk)
  have dR1 : ∀ k, k ∈ R1 → k ≠ d := fun k hk => n7 k hk d List.mem_cons_self
  have dR2 : ∀ k, k ∈ R2 → k ≠ d := fun k hk h => n5 (by rw [← h]; exact hk)
  have R12 : ∀ k k', k ∈ R1 → k' ∈ R2 → k ≠ k' := fun k k' hk hk' => n7 k hk k' (List.mem_cons_of_mem _ hk')
  have hda : d ≠ a := aR d memd
  have hdb : d ≠ b := bR d memd
  have hdc : d ≠ c := cR d memd
  obtain ⟨d', hd'⟩ := hfrom d (mc2 memd)
  obtain ⟨b', hb'⟩ := hfrom b (List.mem_cons_of_mem _ List.mem_cons_self)
  have mab : (a, b) ∈ gm_C (a :: b :: c :: (R1 ++ d :: R2)) := List.mem_cons_self
  have mbc : (b, c) ∈ gm_C (a :: b :: c :: (R1 ++ d :: R2)) := List.mem_cons_of_mem _ List.mem_cons_self
  have mA1 : ∀ f, f ∈ gm_E c (R1 ++ [d]) → f ∈ gm_C (a :: b :: c :: (R1 ++ d :: R2)) := by
    intro f hf; rw [eP]; exact List.mem_cons_of_mem _ (List.mem_cons_of_mem _ (List.mem_append_left _ hf))
  have mA2 : ∀ f, f ∈ gm_E d (R2 ++ [a]) → f ∈ gm_C (a :: b :: c :: (R1 ++ d :: R2)) := by
    intro f hf; rw [eP]; exact List.mem_cons_of_mem _ (List.mem_cons_of_mem _ (List.mem_append_right _ hf))
  have eA1 : ∀ f, f ∈ gm_E c (R1 ++ [d]) → (f.1 = c ∨ f.1 ∈ R1) ∧ (f.2 ∈ R1 ∨ f.2 = d) := fun f hf => gm_E_mem R1 hf
  have eA2 : ∀ f, f ∈ gm_E d (R2 ++ [a]) → (f.1 = d ∨ f.1 ∈ R2) ∧ (f.2 ∈ R2 ∨ f.2 = a) := fun f hf => gm_E_mem R2 hf
  have d1 : gm_X a b d ≠ 0 := by
    intro h
    rcases gm_CO hS hd' mab (gm_in_on hD hd h) with g | g
    · exact hda g
    · exact hdb g
  have d2 : gm_X b c d ≠ 0 := by
    intro h
    rcases gm_CO hS hd' mbc (gm_in_on (c := a) (by rw [gm_Xrot a b c]; exact hD) (gm_in_rot.mpr hd) h) with g | g
    · exact hdb g
    · exact hdc g
  obtain ⟨u1, u2, u3, u4⟩ := gm_in_h hD hd
  have hs3 := gm_X3 a b c d
  have hX0 := gm_X0 c a
  have hgt : gm_u (gm_X a b c) * gm_X c a d < gm_u (gm_X a b c) * gm_X a b c := by
    have e : gm_u (gm_X a b c) * gm_X a b c = gm_u (gm_X a b c) * gm_X a b d + gm_u (gm_X a b c) * gm_X b c d + gm_u (gm_X a b c) * gm_X c a d := by rw [← hs3]; grind
    have : gm_u (gm_X a b c) * gm_X a b d ≠ 0 := fun h => (Int.mul_eq_zero.mp h).elim (gm_u_ne _) d1
    omega
  have hh : ∀ k, k = a ∨ k = c ∨ k ∈ R1 ++ d :: R2 → gm_in a b c k → gm_u (gm_X a b c) * gm_X c a k ≤ gm_u (gm_X a b c) * gm_X c a d := by
    intro k hk hin
    rcases hk with h | h | h
    · rw [h, hX0.2.1, Int.mul_zero]; exact u3
    · rw [h, hX0.1, Int.mul_zero]; exact u3
    · exact hmax k h hin
  have hN2 : ∀ f, f ∈ gm_C (a :: b :: c :: (R1 ++ d :: R2)) → (f.1 = a ∨ f.1 = c ∨ f.1 ∈ R1 ++ d :: R2) → (f.2 = a ∨ f.2 = c ∨ f.2 ∈ R1 ++ d :: R2) → f.1 ≠ d → f.2 ≠ d → f.1 ≠ b → f.2 ≠ b → ¬ gm_hit f.1 f.2 b d := by
    intro f hf g1 g2 g3 g4 g5 g6
    refine gm_N2 hD hd d1 d2 (hS.1 f hf) (hh _ g1) (hh _ g2) ?_ ?_ ?_
    · intro hit
      rcases gm_pw hS.2 hf mab (fun h => g6 (by rw [h])) with h | h | h
      · exact Or.inr h.1
      · exact absurd h.1.symm g5
      · exact absurd hit h
    · intro hit
      rcases gm_pw hS.2 hf mbc (fun h => g5 (by rw [h])) with h | h | h
      · exact absurd h.1 g6
      · exact Or.inl h.1.symm
      · exact absurd hit h
    · intro ho
      rcases gm_CO hS hd' hf ho with h | h
      · exact g3 h.symm
      · exact g4 h.symm
  have hN2A1 : ∀ f, f ∈ gm_E c (R1 ++ [d]) → f.2 ≠ d → ¬ gm_hit f.1 f.2 b d := by
    intro f hf h2
    obtain ⟨g1, g2⟩ := eA1 f hf
    have k2 : f.2 ∈ R1 := g2.resolve_right h2
    refine hN2 f (mA1 f hf) ?_ (Or.inr (Or.inr (mR1 _ k2))) ?_ h2 ?_ (bR _ (mR1 _ k2))
    · rcases g1 with g | g
      · exact Or.inr (Or.inl g)
      · exact Or.inr (Or.inr (mR1 _ g))
    · rcases g1 with g | g
      · rw [g]; exact hdc.symm
      · exact dR1 _ g
    · rcases g1 with g | g
      · rw [g]; exact bc.symm
      · exact bR _ (mR1 _ g)
  have hN2A2 : ∀ f, f ∈ gm_E d (R2 ++ [a]) → f.1 ≠ d → ¬ gm_hit f.1 f.2 b d := by
    intro f hf h1
    obtain ⟨g1, g2⟩ := eA2 f hf
    have k1 : f.1 ∈ R2 := g1.resolve_left h1
    refine hN2 f (mA2 f hf) (Or.inr (Or.inr (mR2 _ k1))) ?_ h1 ?_ (bR _ (mR2 _ k1)) ?_
    · rcases g2 with g | g
      · exact Or.inr (Or.inr (mR2 _ g))
      · exact Or.inl g
    · rcases g2 with g | g
      · exact dR2 _ g
      · rw [g]; exact hda.symm
    · rcases g2 with g | g
      · exact bR _ (mR2 _ g)
      · rw [g]; exact ab
  -- no going back at d
  have hfold : ∀ r, r = a ∨ r = c ∨ r ∈ R1 ++ d :: R2 → r ≠ d → r ≠ b → (∀ z, gm_on r d z → z = b → False) → ¬ gm_fold r d b := by
    intro r hr hrd hrb hno hf
    rcases gm_ray hf with h | h
    · obtain ⟨l, m, hl, hm, h0, w1, w2⟩ := gm_on_wt hdb h
      have t := fun g h => gm_mt_X (p := d) (q := b) (r := r) (s := r) (l := l) (m := m) (n := l + m) (k := 0) (by omega) (by omega) (by omega) g h
      have t1 := t a b
      have t2 := t b c
      have t3 := t c a
      rw [(gm_X0 a b).2.1] at t1
      rw [(gm_X0 b c).1] at t2
      rw [(gm_Xrot c a b).symm] at t3
      simp only [Int.mul_zero, Int.zero_mul, Int.add_zero] at t1 t2 t3
      have s1 := gm_sgt h0 (gm_X a b r)
      have s2 := gm_sgt h0 (gm_X b c r)
      have s3 := gm_sgt h0 (gm_X c a r)
      have p1 : ∀ {x : Int}, 0 ≤ x → 0 ≤ l * x ∧ 0 ≤ m * x := fun h => ⟨Int.mul_nonneg hl h, Int.mul_nonneg hm h⟩
      have p2 : ∀ {x : Int}, x ≤ 0 → l * x ≤ 0 ∧ m * x ≤ 0 := fun h => ⟨Int.mul_nonpos_of_nonneg_of_nonpos hl h, Int.mul_nonpos_of_nonneg_of_nonpos hm h⟩
      have hin : gm_in a b c r := by
        rcases hd with ⟨g1, g2, g3⟩ | ⟨g1, g2, g3⟩
        · have a1 := p1 g1
          have a2 := p1 g2
          have a3 := p1 g3
          have a4 := p1 (x := gm_X a b c) (by omega)
          exact Or.inl ⟨by omega, by omega, by omega⟩
        · have a1 := p2 g1
          have a2 := p2 g2
          have a3 := p2 g3
          have a4 := p2 (x := gm_X a b c) (by omega)
          exact Or.inr ⟨by omega, by omega, by omega⟩
      have hle := hh r hr hin
      have k1 : (l + m) * (gm_u (gm_X a b c) * gm_X c a r) = l * (gm_u (gm_X a b c) * gm_X c a d) + m * (gm_u (gm_X a b c) * gm_X a b c) := by
        have : (l + m) * (gm_u (gm_X a b c) * gm_X c a r) = gm_u (gm_X a b c) * ((l + m) * gm_X c a r) := by grind
        rw [this, ← t3]; grind
      have k2 : (l + m) * (gm_u (gm_X a b c) * gm_X c a r) ≤ (l + m) * (gm_u (gm_X a b c) * gm_X c a d) := Int.mul_le_mul_of_nonneg_left hle (by omega)
      have k3 : m * (gm_u (gm_X a b c) * gm_X a b c - gm_u (gm_X a b c) * gm_X c a d) ≤ 0 := by
        have : m * (gm_u (gm_X a b c) * gm_X a b c - gm_u (gm_X a b c) * gm_X c a d) = (l * (gm_u (gm_X a b c) * gm_X c a d) + m * (gm_u (gm_X a b c) * gm_X a b c)) - (l + m) * (gm_u (gm_X a b c) * gm_X c a d) := by grind
        omega
      have hm0 : m = 0 := by
        rcases Int.lt_or_le 0 m with hm1 | hm1
        · have := Int.mul_pos hm1 (show 0 < gm_u (gm_X a b c) * gm_X a b c - gm_u (gm_X a b c) * gm_X c a d by omega)
          omega
        · omega
      subst hm0
      have hl0 : l ≠ 0 := by omega
      exact hrd (Prod.ext (Int.eq_of_mul_eq_mul_left hl0 (by grind)) (Int.eq_of_mul_eq_mul_left hl0 (by grind)))
    · exact hno b (gm_on_swap.mp h) rfl
  have hnob : ∀ f, f ∈ gm_C (a :: b :: c :: (R1 ++ d :: R2)) → f.1 ≠ b → f.2 ≠ b → ∀ z, gm_on f.1 f.2 z → z = b → False := by
    intro f hf h1 h2 z hz hzb
    rw [hzb] at hz
    rcases gm_CO hS hb' hf hz with h | h
    · exact h1 h.symm
    · exact h2 h.symm
  have hS' := hS
  rw [eP] at hS'
  obtain ⟨hS1, hS2⟩ := hS'
  rw [List.pairwise_cons, List.pairwise_cons, List.pairwise_append] at hS2
  obtain ⟨q1, q2, q3, q4, q5⟩ := hS2
  have ok1 : gm_ok (gm_C (d :: b :: c :: R1)) := by
    rw [gm_C3]
    refine ⟨?_, List.pairwise_cons.mpr ⟨?_, List.pairwise_cons.mpr ⟨?_, q3⟩⟩⟩
    · intro f hf
      rcases List.mem_cons.mp hf with h | h
      · rw [h]; exact hdb
      · rcases List.mem_cons.mp h with h | h
        · rw [h]; exact bc
        · exact hS.1 f (mA1 f h)
    · intro f hf
      rcases List.mem_cons.mp hf with h | h
      · rw [h]
        refine Or.inl ⟨rfl, fun hf => d2 ?_⟩
        rw [← hf.1]; exact gm_Xrot d b c
      · by_cases hfd : f.2 = d
        · refine Or.inr (Or.inl ⟨hfd, ?_⟩)
          obtain ⟨g1, g2⟩ := eA1 f h
          have e1 : f.1 ≠ d ∧ f.1 ≠ b ∧ (f.1 = c ∨ f.1 ∈ R1 ++ d :: R2) := by
            rcases g1 with g | g
            · rw [g]; exact ⟨hdc.symm, bc.symm, Or.inl rfl⟩
            · exact ⟨dR1 _ g, bR _ (mR1 _ g), Or.inr (mR1 _ g)⟩
          have hno := hnob f (mA1 f h) e1.2.1 (by rw [hfd]; exact hdb)
          rw [hfd] at hno ⊢
          exact hfold f.1 (Or.inr e1.2.2) e1.1 e1.2.1 hno
        · exact Or.inr (Or.inr (fun hit => hN2A1 f h hfd (gm_hit_sym.mp (gm_hit_swap.mp hit))))
    · intro f hf
      exact q2 f (List.mem_append_left _ hf)
  have ok2 : gm_ok (gm_C (a :: b :: d :: R2)) := by
    rw [gm_C3]
    refine ⟨?_, List.pairwise_cons.mpr ⟨?_, List.pairwise_cons.mpr ⟨?_, q4⟩⟩⟩
    · intro f hf
      rcases List.mem_cons.mp hf with h | h
      · rw [h]; exact ab
      · rcases List.mem_cons.mp h with h | h
        · rw [h]; exact hdb.symm
        · exact hS.1 f (mA2 f h)
    · intro f hf
      rcases List.mem_cons.mp hf with h | h
      · rw [h]
        exact Or.inl ⟨rfl, fun hf => d1 hf.1⟩
      · exact q1 f (List.mem_cons_of_mem _ (List.mem_append_right _ h))
    · intro f hf
      by_cases hfd : f.1 = d
      · refine Or.inl ⟨hfd.symm, ?_⟩
        obtain ⟨g1, g2⟩ := eA2 f hf
        have e1 : f.2 ≠ d ∧ f.2 ≠ b ∧ (f.2 = a ∨ f.2 = c ∨ f.2 ∈ R1 ++ d :: R2) := by
          rcases g2 with g | g
          · exact ⟨dR2 _ g, bR _ (mR2 _ g), Or.inr (Or.inr (mR2 _ g))⟩
          · rw [g]; exact ⟨hda.symm, ab, Or.inl rfl⟩
        have hno := hnob f (mA2 f hf) (by rw [hfd]; exact hdb) e1.2.1
        rw [hfd] at hno
        intro hf
        exact hfold f.2 e1.2.2 e1.1 e1.2.1 (fun z hz => hno z (gm_on_swap.mp hz)) (gm_fold_sym.mp hf)
      · exact Or.inr (Or.inr (fun hit => hN2A2 f hf hfd (gm_hit_sym.mp hit)))
  refine ⟨ok1, ok2, ?_, ?_⟩
  · -- the way from d to a is out of the one part
    have hinner : ∀ f, f ∈ gm_E d (R2 ++ [a]) → f.1 ≠ d → gm_w (gm_C (d :: b :: c :: R1)) f.1 = gm_w (gm_C (d :: b :: c :: R1)) f.2 := by
      intro f hf h1
      have hm := gm_mv (d :: b :: c :: R1) f.1 f.2
      rw [hm, gm_sm_zero]
      · omega
      · intro g hg
        obtain ⟨e1, e2⟩ := eA2 f hf
        have k1 := e1.resolve_left h1
        rw [gm_C3] at hg
        rcases List.mem_cons.mp hg with h | h
        · rw [h]
          exact gm_J_hit (fun hit => hN2A2 f hf h1 (gm_hit_swap'.mp (gm_hit_sym.mp hit)))
        · refine gm_J_hit (fun hit => ?_)
          have hit' := gm_hit_sym.mp hit
          rcases List.mem_cons.mp h with h | h
          · rw [h] at hit'
            rcases q2 f (List.mem_append_right _ hf) with g | g | g
            · have : c = f.1 := g.1
              exact cR _ (mR2 _ k1) this.symm
            · have hb : f.2 = b := g.1
              rcases e2 with e2 | e2
              · exact bR _ (mR2 _ e2) hb
              · exact ab (e2.symm.trans hb)
            · exact g (gm_hit_sym.mp hit')
          · obtain ⟨j1, j2⟩ := eA1 g h
            rcases q5 g h f hf with k | k | k
            · have hk : g.2 = f.1 := k.1
              rcases j2 with j2 | j2
              · exact R12 _ _ j2 k1 hk
              · exact h1 (hk.symm.trans j2)
            · have hk : f.2 = g.1 := k.1
              rcases e2 with e2 | e2
              · rcases j1 with j1 | j1
                · exact cR _ (mR2 _ e2) (hk.trans j1)
                · exact R12 _ _ j1 e2 hk.symm
              · rcases j1 with j1 | j1
                · exact ac (e2.symm.trans (hk.trans j1))
                · exact aR _ (mR1 _ j1) (hk.symm.trans e2)
            · exact k hit
    have ha : gm_w (gm_C (d :: b :: c :: R1)) a = 0 := by
      have hm := gm_mv (d :: b :: c :: R1) a b
      have hb0 : gm_w (gm_C (d :: b :: c :: R1)) b = 0 := by
        refine gm_sm_zero (fun f hf => gm_top ?_ ?_)
        · have : f.1 ∈ d :: b :: c :: R1 := by
            have := List.mem_map_of_mem (f := Prod.fst) hf
            rw [gm_C_fst] at this; exact this
          rcases List.mem_cons.mp this with h | h
          · rw [h]; exact Or.inr (hlt d (List.mem_cons_of_mem _ (List.mem_cons_of_mem _ memd)))
          · rcases List.mem_cons.mp h with h | h
            · exact Or.inl h
            · rcases List.mem_cons.mp h with h | h
              · rw [h]; exact Or.inr (hlt c (List.mem_cons_of_mem _ List.mem_cons_self))
              · exact Or.inr (hlt _ (List.mem_cons_of_mem _ (List.mem_cons_of_mem _ (mR1 _ h))))
        · rw [gm_C3] at hf
          rcases List.mem_cons.mp hf with h | h
          · rw [h]; exact Or.inl rfl
          · rcases List.mem_cons.mp h with h | h
            · rw [h]; exact Or.inr (hlt c (List.mem_cons_of_mem _ List.mem_cons_self))
            · rcases (eA1 f h).2 with g | g
              · exact Or.inr (hlt _ (List.mem_cons_of_mem _ (List.mem_cons_of_mem _ (mR1 _ g))))
              · rw [g]; exact Or.inr (hlt d (List.mem_cons_of_mem _ (List.mem_cons_of_mem _ memd)))
      have hA1 : gm_sm (fun e => gm_J a b e.1 e.2) (gm_E c (R1 ++ [d])) = 0 := by
        refine gm_sm_zero (fun g hg => gm_J_hit (fun hit => ?_))
        obtain ⟨j1, j2⟩ := eA1 g hg
        rcases q1 g (List.mem_cons_of_mem _ (List.mem_append_left _ hg)) with k | k | k
        · have hk : b = g.1 := k.1
          rcases j1 with j1 | j1
          · exact bc (hk.trans j1)
          · exact bR _ (mR1 _ j1) hk.symm
        · have hk : g.2 = a := k.1
          rcases j2 with j2 | j2
          · exact aR _ (mR1 _ j2) hk
          · exact hda (j2.symm.trans hk)
        · exact k (gm_hit_sym.mp hit)
      have hJ := gm_LBJ (o := a) (b := b) (x := c) (y := d) (hlt a List.mem_cons_self) (hlt c (List.mem_cons_of_mem _ List.mem_cons_self)) (hlt d (List.mem_cons_of_mem _ (List.mem_cons_of_mem _ memd))) (by
        rw [gm_Xswap a b c, gm_Xswap a b d]
        unfold gm_in at hd
        omega)
      rw [gm_C3] at hm
      have e : gm_sm (fun e => gm_J a b e.1 e.2) ((d, b) :: (b, c) :: gm_E c (R1 ++ [d])) = gm_J a b d b + (gm_J a b b c + gm_sm (fun e => gm_J a b e.1 e.2) (gm_E c (R1 ++ [d]))) := rfl
      rw [e, hA1] at hm
      rw [gm_C3] at hb0 ⊢
      omega
    cases R2 with
    | nil =>
      intro k hk
      have : k = a := List.mem_singleton.mp hk
      rw [this]; exact ha
    | cons r R2 =>
      have hall : ∀ k, k ∈ r :: (R2 ++ [a]) → gm_w (gm_C (d :: b :: c :: R1)) k = gm_w (gm_C (d :: b :: c :: R1)) r := by
        refine gm_chain (R2 ++ [a]) r (fun f hf => hinner f (List.mem_cons_of_mem _ hf) ?_)
        rcases (gm_E_mem R2 hf).1 with h | h
        · rw [h]; exact dR2 _ List.mem_cons_self
        · exact dR2 _ (List.mem_cons_of_mem _ h)
      intro k hk
      have h1 := hall k hk
      have h2 := hall a (List.mem_cons_of_mem _ (List.mem_append_right _ List.mem_cons_self))
      rw [h1, ← h2]; exact ha
  · -- the way from c to d is out of the other part
    have hinner : ∀ f, f ∈ gm_E c (R1 ++ [d]) → f.2 ≠ d → gm_w (gm_C (a :: b :: d :: R2)) f.1 = gm_w (gm_C (a :: b :: d :: R2)) f.2 := by
      intro f hf h2
      have hm := gm_mv (a :: b :: d :: R2) f.1 f.2
      rw [hm, gm_sm_zero]
      · omega
      · intro g hg
        obtain ⟨e1, e2⟩ := eA1 f hf
        have k2 := e2.resolve_right h2
        rw [gm_C3] at hg
        rcases List.mem_cons.mp hg with h | h
        · rw [h]
          refine gm_J_hit (fun hit => ?_)
          rcases q1 f (List.mem_cons_of_mem _ (List.mem_append_left _ hf)) with g | g | g
          · have hb : b = f.1 := g.1
            rcases e1 with e1 | e1
            · exact bc (hb.trans e1)
            · exact bR _ (mR1 _ e1) hb.symm
          · have : f.2 = a := g.1
            exact aR _ (mR1 _ k2) this
          · exact g hit
        · rcases List.mem_cons.mp h with h | h
          · rw [h]
            exact gm_J_hit (fun hit => hN2A1 f hf h2 (gm_hit_sym.mp hit))
          · refine gm_J_hit (fun hit => ?_)
            obtain ⟨j1, j2⟩ := eA2 g h
            rcases q5 f hf g h with k | k | k
            · have hk : f.2 = g.1 := k.1
              rcases j1 with j1 | j1
              · exact h2 (hk.trans j1)
              · exact R12 _ _ k2 j1 hk
            · have hk : g.2 = f.1 := k.1
              rcases e1 with e1 | e1
              · rcases j2 with j2 | j2
                · exact cR _ (mR2 _ j2) (hk.trans e1)
                · exact ac (j2.symm.trans (hk.trans e1))
              · rcases j2 with j2 | j2
                · exact R12 _ _ e1 j2 hk.symm
                · exact aR _ (mR1 _ e1) (hk.symm.trans j2)
            · exact k (gm_hit_sym.mp hit)
    have hc : gm_w (gm_C (a :: b :: d :: R2)) c = 0 := by
      have hm := gm_mv (a :: b :: d :: R2) c b
      have hb0 : gm_w (gm_C (a :: b :: d :: R2)) b = 0 := by
        refine gm_sm_zero (fun f hf => gm_top ?_ ?_)
        · have : f.1 ∈ a :: b :: d :: R2 := by
            have := List.mem_map_of_mem (f := Prod.fst) hf
            rw [gm_C_fst] at this; exact this
          rcases List.mem_cons.mp this with h | h
          · rw [h]; exact Or.inr (hlt a List.mem_cons_self)
          · rcases List.mem_cons.mp h with h | h
            · exact Or.inl h
            · rcases List.mem_cons.mp h with h | h
              · rw [h]; exact Or.inr (hlt d (List.mem_cons_of_mem _ (List.mem_cons_of_mem _ memd)))
              · exact Or.inr (hlt _ (List.mem_cons_of_mem _ (List.mem_cons_of_mem _ (mR2 _ h))))
        · rw [gm_C3] at hf
          rcases List.mem_cons.mp hf with h | h
          · rw [h]; exact Or.inl rfl
          · rcases List.mem_cons.mp h with h | h
            · rw [h]; exact Or.inr (hlt d (List.mem_cons_of_mem _ (List.mem_cons_of_mem _ memd)))
            · rcases (eA2 f h).2 with g | g
              · exact Or.inr (hlt _ (List.mem_cons_of_mem _ (List.mem_cons_of_mem _ (mR2 _ g))))
              · rw [g]; exact Or.inr (hlt a List.mem_cons_self)
      have hA2 : gm_sm (fun e => gm_J c b e.1 e.2) (gm_E d (R2 ++ [a])) = 0 := by
        refine gm_sm_zero (fun g hg => gm_J_hit (fun hit => ?_))
        obtain ⟨j1, j2⟩ := eA2 g hg
        rcases q2 g (List.mem_append_right _ hg) with k | k | k
        · have hk : c = g.1 := k.1
          rcases j1 with j1 | j1
          · exact hdc (j1.symm.trans hk.symm)
          · exact cR _ (mR2 _ j1) hk.symm
        · have hk : g.2 = b := k.1
          rcases j2 with j2 | j2
          · exact bR _ (mR2 _ j2) hk
          · exact ab (j2.symm.trans hk)
        · exact k (gm_hit_swap.mp (gm_hit_sym.mp hit))
      have hJ := gm_LBJ (o := c) (b := b) (x := d) (y := a) (hlt c (List.mem_cons_of_mem _ List.mem_cons_self)) (hlt d (List.mem_cons_of_mem _ (List.mem_cons_of_mem _ memd))) (hlt a List.mem_cons_self) (by
        have r : gm_X b c a = gm_X a b c := gm_Xrot a b c
        rw [r]
        unfold gm_in at hd
        omega)
      rw [gm_C3] at hm
      have e : gm_sm (fun e => gm_J c b e.1 e.2) ((a, b) :: (b, d) :: gm_E d (R2 ++ [a])) = gm_J c b a b + (gm_J c b b d + gm_sm (fun e => gm_J c b e.1 e.2) (gm_E d (R2 ++ [a]))) := rfl
      rw [e, hA2] at hm
      rw [gm_C3] at hb0 ⊢
      omega
    have hall : ∀ k, k ∈ c :: R1 → gm_w (gm_C (a :: b :: d :: R2)) k = gm_w (gm_C (a :: b :: d :: R2)) c := by
      refine gm_chain R1 c (fun f hf => ?_)
      obtain ⟨h1, h2, h3⟩ := gm_E_sub (a := d) R1 hf
      exact hinner f h3 (dR1 _ h2)
    intro k hk
    rw [hall k hk]; exact hc
end RZG12
