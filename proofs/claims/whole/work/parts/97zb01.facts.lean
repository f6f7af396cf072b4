/-! part 97zb01: level 2: simple polygons: what within, triangleAt, tiles and isSound rest on -/
section RZGS
variable {x y : Nat → Int} {n : Nat}
/-- the polygon, grown -/
def gm_P (x y : Nat → Int) (n : Nat) (t : Int) : List (Int × Int) := ((List.range n).map (gm_p x y)).map (gm_c t)
theorem gm_C_t (t : Int) : gm_C (gm_P x y n t) = (List.range n).map (fun i => (gm_c t (gm_p x y i), gm_c t (gm_p x y (zp_nx n i)))) := by
  unfold gm_P
  rw [gm_C_map, gm_C_nx, List.map_map]
  rfl
theorem gm_ons {Xx Y t : Int} {i : Nat} : zw_ons x y n Xx Y t i = true ↔ gm_on (gm_c t (gm_p x y i)) (gm_c t (gm_p x y (zp_nx n i))) (Xx, Y) := by
  have e : gm_X (gm_c t (gm_p x y i)) (gm_c t (gm_p x y (zp_nx n i))) (Xx, Y) = (t * x i - Xx) * (t * y (zp_nx n i) - Y) - (t * x (zp_nx n i) - Xx) * (t * y i - Y) := by unfold gm_X gm_c gm_p; grind
  unfold zw_ons gm_on
  rw [decide_eq_true_iff, e]
  simp only [gm_c, gm_p]
  omega
theorem gm_Hs {Xx Y t : Int} {i : Nat} (h : zw_ons x y n Xx Y t i = false) : zw_Hs x y n Xx Y t i = decide (gm_cr (Xx, Y) (gm_c t (gm_p x y i)) (gm_c t (gm_p x y (zp_nx n i))) ≠ 0) := by
  have e : gm_X (gm_c t (gm_p x y i)) (gm_c t (gm_p x y (zp_nx n i))) (Xx, Y) = (t * x i - Xx) * (t * y (zp_nx n i) - Y) - (t * x (zp_nx n i) - Xx) * (t * y i - Y) := by unfold gm_X gm_c gm_p; grind
  have hoff : ¬ gm_on (gm_c t (gm_p x y i)) (gm_c t (gm_p x y (zp_nx n i))) (Xx, Y) := by rw [← gm_ons, h]; decide
  have hcr : gm_cr (Xx, Y) (gm_c t (gm_p x y i)) (gm_c t (gm_p x y (zp_nx n i))) = gm_k (t * y i - Y) (t * y (zp_nx n i) - Y) ((t * x i - Xx) * (t * y (zp_nx n i) - Y) - (t * x (zp_nx n i) - Xx) * (t * y i - Y)) := by
    unfold gm_cr; rw [e]; rfl
  have hT : ((t * y i - Y ≤ 0 ∧ 0 < t * y (zp_nx n i) - Y) ∨ (t * y (zp_nx n i) - Y ≤ 0 ∧ 0 < t * y i - Y)) → (t * x i - Xx) * (t * y (zp_nx n i) - Y) - (t * x (zp_nx n i) - Xx) * (t * y i - Y) ≠ 0 := by
    intro hs h0
    apply hoff
    rw [h0] at e
    rcases hs with ⟨h1, h2⟩ | ⟨h1, h2⟩
    · refine gm_on_of (l := t * y (zp_nx n i) - Y) (m := -(t * y i - Y)) (by omega) (by omega) (by omega) ?_ ?_
      · simp only [gm_c, gm_p]; grind
      · simp only [gm_c, gm_p]; grind
    · refine gm_on_of (l := -(t * y (zp_nx n i) - Y)) (m := t * y i - Y) (by omega) (by omega) (by omega) ?_ ?_
      · simp only [gm_c, gm_p]; grind
      · simp only [gm_c, gm_p]; grind
  rw [hcr]
  unfold zw_Hs zw_H
  generalize (t * x i - Xx) * (t * y (zp_nx n i) - Y) - (t * x (zp_nx n i) - Xx) * (t * y i - Y) = T at *
  generalize t * y i - Y = u at *
  generalize t * y (zp_nx n i) - Y = v at *
  refine decide_eq_decide.mpr ?_
  have e1 : (((0 < u) ≠ (0 < v)) ∧ ((u < v) = (0 < T))) ↔ (¬ (0 < u ↔ 0 < v) ∧ (u < v ↔ 0 < T)) := by
    constructor
    · rintro ⟨h1, h2⟩
      exact ⟨fun c => h1 (propext c), by rw [h2]⟩
    · rintro ⟨h1, h2⟩
      exact ⟨fun c => h1 (by rw [c]), propext h2⟩
  rw [e1]
  by_cases g1 : u ≤ 0 ∧ 0 < v ∧ 0 < T
  · rw [gm_k1 g1]; omega
  · by_cases g2 : v ≤ 0 ∧ 0 < u ∧ T < 0
    · rw [gm_k2 g2]; omega
    · rw [gm_k0 g1 g2]; omega
theorem gm_par {c : Nat → Int} : ∀ {n : Nat}, (∀ i, i < n → c i = 0 ∨ c i = 1 ∨ c i = -1) → zw_x (fun i => decide (c i ≠ 0)) n = decide (zp_sum c n % 2 = 1) := by
  intro n
  induction n with
  | zero => intro _; rfl
  | succ n ih =>
    intro h
    unfold zw_x zp_sum
    rw [ih (fun i hi => h i (Nat.lt_succ_of_lt hi))]
    rcases h n (Nat.lt_succ_self n) with h | h | h <;> rw [h]
    · simp
    · by_cases g : zp_sum c n % 2 = 1
      · rw [decide_eq_true g, decide_eq_false (show ¬ (zp_sum c n + 1) % 2 = 1 by omega)]; rfl
      · rw [decide_eq_false g, decide_eq_true (show (zp_sum c n + 1) % 2 = 1 by omega)]; rfl
    · by_cases g : zp_sum c n % 2 = 1
      · rw [decide_eq_true g, decide_eq_false (show ¬ (zp_sum c n + -1) % 2 = 1 by omega)]; rfl
      · rw [decide_eq_false g, decide_eq_true (show (zp_sum c n + -1) % 2 = 1 by omega)]; rfl
theorem gm_cr_c (z p q : Int × Int) : gm_cr z p q = 0 ∨ gm_cr z p q = 1 ∨ gm_cr z p q = -1 := by
  unfold gm_cr gm_k
  repeat' split
  all_goals omega
theorem gm_P_ok {t : Int} (ht : 0 < t) (hok : zp_ok x y n) : gm_ok (gm_C (gm_P x y n t)) := gm_ok_c ht (gm_ok_of hok)
theorem gm_P_len (t : Int) : (gm_P x y n t).length = n := by unfold gm_P; rw [List.length_map, List.length_map, List.length_range]
/-- what class and reference say of a place -/
theorem gm_v {t : Int} (ht : 0 < t) (h3 : 3 ≤ n) (hok : zp_ok x y n) (Xx Y : Int) : gm_val (gm_C (gm_P x y n t)) (Xx, Y) = gm_ri (gm_C (gm_P x y n t)) (Xx, Y) + 2 * (if zw_v x y n Xx Y t = 119 then 1 else 0) ∧ gm_ri (gm_C (gm_P x y n t)) (Xx, Y) = if zw_v x y n Xx Y t = 114 then 1 else 0 := by
  by_cases hr : ∃ i, i < n ∧ zw_ons x y n Xx Y t i = true
  · obtain ⟨i, hi, ho⟩ := hr
    rw [zw_v_on hi ho]
    have hm : (gm_c t (gm_p x y i), gm_c t (gm_p x y (zp_nx n i))) ∈ gm_C (gm_P x y n t) := by
      rw [gm_C_t]; exact List.mem_map.mpr ⟨i, List.mem_range.mpr hi, rfl⟩
    have := gm_val_r hm (gm_ons.mp ho)
    rw [this.1, this.2]
    exact ⟨rfl, rfl⟩
  · have hoff : ∀ i, i < n → zw_ons x y n Xx Y t i = false := fun i hi => by
      cases h : zw_ons x y n Xx Y t i
      · rfl
      · exact absurd ⟨i, hi, h⟩ hr
    have hno : ∀ f, f ∈ gm_C (gm_P x y n t) → ¬ gm_on f.1 f.2 (Xx, Y) := by
      intro f hf ho
      rw [gm_C_t] at hf
      obtain ⟨i, hi, rfl⟩ := List.mem_map.mp hf
      exact hr ⟨i, List.mem_range.mp hi, gm_ons.mpr ho⟩
    have hv := gm_val_n hno
    have hj := (gm_main _ _ (Nat.le_refl _) (by rw [gm_P_len]; exact h3) (gm_P_ok ht hok)).1.2 (Xx, Y) hno
    rw [zw_v_off hoff, zw_cong (q := fun i => decide (gm_cr (Xx, Y) (gm_c t (gm_p x y i)) (gm_c t (gm_p x y (zp_nx n i))) ≠ 0)) (fun i hi => gm_Hs (hoff i hi)), gm_par (fun i _ => gm_cr_c _ _ _)]
    have hw : gm_w (gm_C (gm_P x y n t)) (Xx, Y) = zp_sum (fun i => gm_cr (Xx, Y) (gm_c t (gm_p x y i)) (gm_c t (gm_p x y (zp_nx n i)))) n := by
      unfold gm_w; rw [gm_C_t, gm_sm_range]
    rw [← hw, hv.1, hv.2]
    rcases hj with h | h
    · rw [if_pos h, h]; exact ⟨rfl, rfl⟩
    · rw [if_neg (by rw [h]; exact gm_u_ne _), h]
      unfold gm_u
      split <;> exact ⟨rfl, rfl⟩
/-- a place beside all corners is outside -/
theorem gm_border {P : List (Int × Int)} {z : Int × Int} (hno : ∀ f, f ∈ gm_C P → ¬ gm_on f.1 f.2 z) (h : (∀ k, k ∈ P → k.1 ≤ z.1) ∨ (∀ k, k ∈ P → k.2 ≤ z.2) ∨ (∀ k, k ∈ P → z.1 ≤ k.1) ∨ (∀ k, k ∈ P → z.2 ≤ k.2)) : gm_w (gm_C P) z = 0 := by
  have m1 : ∀ f, f ∈ gm_C P → f.1 ∈ P := by
    intro f hf
    have := List.mem_map_of_mem (f := Prod.fst) hf
    rw [gm_C_fst] at this; exact this
  have eX : ∀ p q : Int × Int, gm_X p q z = (p.1 - z.1) * (q.2 - z.2) - (q.1 - z.1) * (p.2 - z.2) := by intro p q; unfold gm_X; grind
  have np : ∀ {a b : Int}, a ≤ 0 → 0 ≤ b → a * b ≤ 0 := fun h1 h2 => Int.mul_nonpos_of_nonpos_of_nonneg h1 h2
  have pn : ∀ {a b : Int}, 0 ≤ a → b ≤ 0 → a * b ≤ 0 := fun h1 h2 => Int.mul_nonpos_of_nonneg_of_nonpos h1 h2
  have nn : ∀ {a b : Int}, a ≤ 0 → b ≤ 0 → 0 ≤ a * b := fun h1 h2 => Int.mul_nonneg_of_nonpos_of_nonpos h1 h2
  have pp : ∀ {a b : Int}, 0 ≤ a → 0 ≤ b → 0 ≤ a * b := fun h1 h2 => Int.mul_nonneg h1 h2
  rcases h with h | h | h | h
  · refine gm_sm_zero (fun f hf => ?_)
    have h1 := h _ (m1 f hf)
    have h2 := h _ (gm_C_snd hf)
    unfold gm_cr
    refine gm_k0 ?_ ?_
    · rintro ⟨g1, g2, g3⟩
      rw [eX] at g3
      have := np (show f.1.1 - z.1 ≤ 0 by omega) (show 0 ≤ f.2.2 - z.2 by omega)
      have := nn (show f.2.1 - z.1 ≤ 0 by omega) g1
      omega
    · rintro ⟨g1, g2, g3⟩
      rw [eX] at g3
      have := nn (show f.1.1 - z.1 ≤ 0 by omega) g1
      have := np (show f.2.1 - z.1 ≤ 0 by omega) (show 0 ≤ f.1.2 - z.2 by omega)
      omega
  · refine gm_sm_zero (fun f hf => ?_)
    have h1 := h _ (m1 f hf)
    have h2 := h _ (gm_C_snd hf)
    unfold gm_cr
    exact gm_k0 (by omega) (by omega)
  · have ht := gm_C_tel (fun p => if z.2 < p.2 then 1 else 0) P
    rw [← ht]
    refine gm_sm_cong (fun f hf => ?_)
    have h1 := h _ (m1 f hf)
    have h2 := h _ (gm_C_snd hf)
    have hn := hno f hf
    have eXf := eX f.1 f.2
    have hz : ∀ {a b : Int}, a * b = 0 → a = 0 ∨ b = 0 := fun h => Int.mul_eq_zero.mp h
    by_cases g1 : f.1.2 ≤ z.2 <;> by_cases g2 : f.2.2 ≤ z.2
    · rw [if_neg (by omega), if_neg (by omega)]
      unfold gm_cr
      exact gm_k0 (by omega) (by omega)
    · rw [if_pos (by omega), if_neg (by omega)]
      have a1 := pp (show 0 ≤ f.1.1 - z.1 by omega) (show 0 ≤ f.2.2 - z.2 by omega)
      have a2 := pn (show 0 ≤ f.2.1 - z.1 by omega) (show f.1.2 - z.2 ≤ 0 by omega)
      have hT : gm_X f.1 f.2 z ≠ 0 := fun h0 => hn (gm_on_of (l := f.2.2 - z.2) (m := z.2 - f.1.2) (by omega) (by omega) (by omega) (by rw [h0] at eXf; grind) (by grind))
      unfold gm_cr
      rw [gm_k1 ⟨by omega, by omega, by omega⟩]; rfl
    · rw [if_neg (by omega), if_pos (by omega)]
      have a1 := pn (show 0 ≤ f.1.1 - z.1 by omega) (show f.2.2 - z.2 ≤ 0 by omega)
      have a2 := pp (show 0 ≤ f.2.1 - z.1 by omega) (show 0 ≤ f.1.2 - z.2 by omega)
      have hT : gm_X f.1 f.2 z ≠ 0 := fun h0 => hn (gm_on_of (l := z.2 - f.2.2) (m := f.1.2 - z.2) (by omega) (by omega) (by omega) (by rw [h0] at eXf; grind) (by grind))
      unfold gm_cr
      rw [gm_k2 ⟨by omega, by omega, by omega⟩]; rfl
    · rw [if_pos (by omega), if_pos (by omega)]
      unfold gm_cr
      exact gm_k0 (by omega) (by omega)
  · have ht := gm_C_tel (fun p => if z.2 = p.2 ∧ z.1 < p.1 then -1 else 0) P
    rw [← ht]
    refine gm_sm_cong (fun f hf => ?_)
    have h1 := h _ (m1 f hf)
    have h2 := h _ (gm_C_snd hf)
    have hn := hno f hf
    have eXf := eX f.1 f.2
    have n1 : z ≠ f.1 := fun hc => hn (by rw [hc]; exact gm_on_l _ _)
    have n2 : z ≠ f.2 := fun hc => hn (by rw [hc]; exact gm_on_r _ _)
    have n1' : z.1 = f.1.1 → z.2 ≠ f.1.2 := fun a b => n1 (Prod.ext a b)
    have n2' : z.1 = f.2.1 → z.2 ≠ f.2.2 := fun a b => n2 (Prod.ext a b)
    unfold gm_cr
    by_cases g1 : z.2 = f.1.2 <;> by_cases g2 : z.2 = f.2.2
    · rw [gm_k0 (by omega) (by omega)]
      have : (z.2 = f.2.2 ∧ z.1 < f.2.1) ↔ (z.2 = f.1.2 ∧ z.1 < f.1.1) := by
        refine Classical.byContradiction (fun hc => hn ?_)
        refine ⟨by rw [eXf, ← g1, ← g2]; simp, ?_, ?_⟩ <;> omega
      rw [gm_ifc this]; omega
    · rw [if_neg (show ¬ (z.2 = f.2.2 ∧ z.1 < f.2.1) from fun h => g2 h.1)]
      have e0 : f.1.2 - z.2 = 0 := by omega
      rw [e0, Int.mul_zero, Int.sub_zero] at eXf
      by_cases g3 : z.1 < f.1.1
      · have := Int.mul_pos (show 0 < f.1.1 - z.1 by omega) (show 0 < f.2.2 - z.2 by omega)
        rw [if_pos ⟨g1, g3⟩, gm_k1 ⟨by omega, by omega, by omega⟩]; rfl
      · have := np (show f.1.1 - z.1 ≤ 0 by omega) (show 0 ≤ f.2.2 - z.2 by omega)
        rw [if_neg (fun h => g3 h.2), gm_k0 (by omega) (by omega)]; rfl
    · rw [if_neg (show ¬ (z.2 = f.1.2 ∧ z.1 < f.1.1) from fun h => g1 h.1)]
      have e0 : f.2.2 - z.2 = 0 := by omega
      rw [e0, Int.mul_zero, Int.zero_sub] at eXf
      by_cases g3 : z.1 < f.2.1
      · have := Int.mul_pos (show 0 < f.2.1 - z.1 by omega) (show 0 < f.1.2 - z.2 by omega)
        rw [if_pos ⟨g2, g3⟩, gm_k2 ⟨by omega, by omega, by omega⟩]; rfl
      · have := np (show f.2.1 - z.1 ≤ 0 by omega) (show 0 ≤ f.1.2 - z.2 by omega)
        rw [if_neg (fun h => g3 h.2), gm_k0 (by omega) (by omega)]; rfl
    · rw [if_neg (fun h => g2 h.1), if_neg (fun h => g1 h.1), gm_k0 (by omega) (by omega)]; rfl
theorem gm_P_mem {t : Int} {k : Int × Int} (h : k ∈ gm_P x y n t) : ∃ i, i < n ∧ k = (t * x i, t * y i) := by
  unfold gm_P at h
  obtain ⟨p, hp, rfl⟩ := List.mem_map.mp h
  obtain ⟨i, hi, rfl⟩ := List.mem_map.mp hp
  exact ⟨i, List.mem_range.mp hi, rfl⟩
theorem gm_P_ar (t : Int) : gm_ar (gm_C (gm_P x y n t)) = t * t * zp_area x y n := by
  unfold gm_P; rw [gm_ar_c, gm_ar_of]
theorem gm_P_gc (t : Nat) : gm_sm gm_gc (gm_C (gm_P x y n t)) = t * zp_rim x y n := by
  rw [gm_C_t, gm_sm_range]
  unfold zp_rim
  rw [← gh_mul]
  refine gh_cong (fun i _ => ?_)
  unfold gm_gc
  simp only [gm_c, gm_p]
  rw [← Int.mul_sub, ← Int.mul_sub, Int.gcd_mul_left]
  push_cast
  rfl
/-- PICK, grown t times -/
theorem gm_pick_t {t : Nat} (ht : 0 < t) (h3 : 3 ≤ n) (hr : ∀ k, (-20 ≤ x k ∧ x k ≤ 20) ∧ (-20 ≤ y k ∧ y k ≤ 20)) (hok : zp_ok x y n) : gm_bx (20 * t) (fun z => if zw_v x y n z.1 z.2 t = 114 then 1 else 0) = t * zp_rim x y n ∧ 2 * gm_bx (20 * t) (fun z => if zw_v x y n z.1 z.2 t = 119 then 1 else 0) + t * zp_rim x y n = t * t * ((zp_area x y n).natAbs : Int) + 2 := by
  have hb : ∀ k, k ∈ gm_P x y n t → gm_b (20 * t) k := by
    intro k hk
    obtain ⟨i, hi, rfl⟩ := gm_P_mem hk
    have h := hr i
    have l := gm_cle (N := (t : Int)) (by omega) (a := -20) (b := x i)
    have l2 := gm_cle (N := (t : Int)) (by omega) (a := x i) (b := 20)
    have l3 := gm_cle (N := (t : Int)) (by omega) (a := -20) (b := y i)
    have l4 := gm_cle (N := (t : Int)) (by omega) (a := y i) (b := 20)
    unfold gm_b
    push_cast
    omega
  obtain ⟨h1, h2⟩ := gm_pick (20 * t) _ (gm_P x y n t) (Nat.le_refl _) (by rw [gm_P_len]; exact h3) (gm_P_ok (by omega) hok) hb
  have e1 : gm_bx (20 * t) (gm_val (gm_C (gm_P x y n t))) = gm_bx (20 * t) (fun z => gm_ri (gm_C (gm_P x y n t)) z + 2 * (if zw_v x y n z.1 z.2 t = 119 then 1 else 0)) := gm_bx_cong (fun z => (gm_v (by omega) h3 hok z.1 z.2).1)
  have e2 : gm_bx (20 * t) (gm_ri (gm_C (gm_P x y n t))) = gm_bx (20 * t) (fun z => if zw_v x y n z.1 z.2 t = 114 then 1 else 0) := gm_bx_cong (fun z => (gm_v (by omega) h3 hok z.1 z.2).2)
  have h1' : gm_bx (20 * t) (gm_val (gm_C (gm_P x y n t))) = ((gm_ar (gm_C (gm_P x y n t))).natAbs : Int) + 2 := h1
  have h2' : gm_bx (20 * t) (gm_ri (gm_C (gm_P x y n t))) = gm_sm gm_gc (gm_C (gm_P x y n t)) := h2
  rw [gm_bx_add, gm_bx_mul, h1'] at e1
  rw [gm_P_gc] at h2'
  have hn : ((gm_ar (gm_C (gm_P x y n t))).natAbs : Int) = t * t * ((zp_area x y n).natAbs : Int) := by
    rw [gm_P_ar, Int.natAbs_mul, Int.natAbs_mul]; push_cast; rfl
  rw [hn] at e1
  have e1' : t * t * ((zp_area x y n).natAbs : Int) + 2 = gm_bx (20 * t) (gm_ri (gm_C (gm_P x y n t))) + 2 * gm_bx (20 * t) (fun z => if zw_v x y n z.1 z.2 t = 119 then 1 else 0) := e1
  rw [h2'] at e1'
  exact ⟨by rw [← e2]; exact h2', by omega⟩
theorem gm_zi : zi_s x y n 41 = gm_bx (20 * 1) (fun z => if zw_v x y n z.1 z.2 1 = 119 then 1 else 0) := by
  have e1 : ∀ Xx k, zi_c x y n Xx k = zp_sum (fun j => if zw_v x y n Xx (-20 + (j : Int)) 1 = 119 then 1 else 0) k := by
    intro Xx k
    induction k with
    | zero => rfl
    | succ k ih => unfold zi_c zp_sum; rw [ih]
  have e2 : ∀ k, zi_s x y n k = zp_sum (fun i => zp_sum (fun j => if zw_v x y n (-20 + (i : Int)) (-20 + (j : Int)) 1 = 119 then 1 else 0) 41) k := by
    intro k
    induction k with
    | zero => rfl
    | succ k ih => unfold zi_s zp_sum; rw [ih, e1]
  rw [e2, gh_swap]
  rfl
/-- within: Pick's count -/
theorem gm_hP (x y : Nat → Int) (n : Nat) (h3 : 3 ≤ n) (_h12 : n ≤ 12) (hr : ∀ k, (-20 ≤ x k ∧ x k ≤ 20) ∧ (-20 ≤ y k ∧ y k ≤ 20)) (hok : zp_ok x y n) : ((zp_area x y n).natAbs : Int) = 2 * zi_s x y n 41 + zp_rim x y n - 2 := by
  have h := (gm_pick_t (t := 1) (by omega) h3 hr hok).2
  rw [gm_zi]
  have e : ((1 : Nat) : Int) = 1 := rfl
  rw [e] at h
  omega
/-- triangleAt: there is an ear each time -/
theorem gm_hT (x y : Nat → Int) (n : Nat) (h3 : 3 ≤ n) (_h12 : n ≤ 12) (_hr : ∀ k, (-20 ≤ x k ∧ x k ≤ 20) ∧ (-20 ≤ y k ∧ y k ≤ 20)) (hok : zp_ok x y n) : (zp_tri x y n).length = n - 2 := gm_tri x y n h3 hok
theorem gh_le {f g : Nat → Int} : ∀ {n : Nat}, (∀ i, i < n → f i ≤ g i) → zp_sum f n ≤ zp_sum g n := by
  intro n
  induction n with
  | zero => intro _; exact Int.le_refl _
  | succ n ih =>
    intro h
    unfold zp_sum
    have := ih (fun i hi => h i (Nat.lt_succ_of_lt hi))
    have := h n (Nat.lt_succ_self n)
    omega
theorem gm_box : gm_bx 20 (fun z => if z.1 = 20 ∨ z.1 = -20 ∨ z.2 = 20 ∨ z.2 = -20 then 1 else 2) = 3202 := by decide +kernel
/-- tiles: no polygon is larger than the square -/
theorem gm_hB (x y : Nat → Int) (n : Nat) (h3 : 3 ≤ n) (_h12 : n ≤ 12) (hr : ∀ k, (-20 ≤ x k ∧ x k ≤ 20) ∧ (-20 ≤ y k ∧ y k ≤ 20)) (hok : zp_ok x y n) : ((zp_area x y n).natAbs : Int) ≤ 3200 := by
  have hb : ∀ k, k ∈ gm_P x y n 1 → gm_b 20 k ∧ (-20 ≤ k.1 ∧ k.1 ≤ 20) ∧ (-20 ≤ k.2 ∧ k.2 ≤ 20) := by
    intro k hk
    obtain ⟨i, hi, rfl⟩ := gm_P_mem hk
    have h := hr i
    unfold gm_b
    simp only
    omega
  have okP := gm_P_ok (t := 1) (by omega) hok
  obtain ⟨h1, -⟩ := gm_pick 20 _ (gm_P x y n 1) (Nat.le_refl _) (by rw [gm_P_len]; exact h3) okP (fun k hk => (hb k hk).1)
  rw [gm_P_ar] at h1
  have hle : gm_bx 20 (fun z => gm_val (gm_C (gm_P x y n 1)) z) ≤ gm_bx 20 (fun z => if z.1 = 20 ∨ z.1 = -20 ∨ z.2 = 20 ∨ z.2 = -20 then 1 else 2) := by
    refine gh_le (fun j _ => gh_le (fun i _ => ?_))
    generalize (-((20 : Nat) : Int) + (i : Int), -((20 : Nat) : Int) + (j : Int)) = z
    show gm_val (gm_C (gm_P x y n 1)) z ≤ if z.1 = 20 ∨ z.1 = -20 ∨ z.2 = 20 ∨ z.2 = -20 then 1 else 2
    by_cases hrim : gm_rim (gm_C (gm_P x y n 1)) z = true
    · have : gm_val (gm_C (gm_P x y n 1)) z = 1 := if_pos hrim
      rw [this]
      split <;> omega
    · have hno : ∀ f, f ∈ gm_C (gm_P x y n 1) → ¬ gm_on f.1 f.2 z := fun f hf ho => hrim (gm_rim_iff.mpr ⟨f, hf, ho⟩)
      have hv := (gm_val_n hno).1
      by_cases hz : z.1 = 20 ∨ z.1 = -20 ∨ z.2 = 20 ∨ z.2 = -20
      · have hw : gm_w (gm_C (gm_P x y n 1)) z = 0 := by
          refine gm_border hno ?_
          rcases hz with h | h | h | h
          · exact Or.inl (fun k hk => by have := (hb k hk).2; omega)
          · exact Or.inr (Or.inr (Or.inl (fun k hk => by have := (hb k hk).2; omega)))
          · exact Or.inr (Or.inl (fun k hk => by have := (hb k hk).2; omega))
          · exact Or.inr (Or.inr (Or.inr (fun k hk => by have := (hb k hk).2; omega)))
        rw [hv, if_pos hw, if_pos hz]; omega
      · rw [hv, if_neg hz]
        split <;> omega
  rw [gm_box, h1] at hle
  rw [Int.one_mul, Int.one_mul] at hle
  omega
/-- within a frame: the same sum -/
theorem gm_frame {K : Nat} {f : Int × Int → Int} {a b c e : Int} (h1 : -(K : Int) ≤ a) (h2 : a ≤ b + 1) (h3 : b ≤ K) (h4 : -(K : Int) ≤ c) (h5 : c ≤ e + 1) (h6 : e ≤ K) (h0 : ∀ z : Int × Int, (z.1 < a ∨ b < z.1 ∨ z.2 < c ∨ e < z.2) → f z = 0) : gm_bx K f = zp_sum (fun j => zp_sum (fun i => f (a + (i : Int), c + (j : Int))) (b + 1 - a).toNat) (e + 1 - c).toNat := by
  have r1 := gh_range (fun j => zp_sum (fun i => f (-(K : Int) + (i : Int), -(K : Int) + (j : Int))) (2 * K + 1)) (a := (c + K).toNat) (b := (e + 1 + K).toNat) (n := 2 * K + 1) (by omega) (by omega)
  unfold gm_bx
  rw [gh_cong (g := fun j => if (c + K).toNat ≤ j ∧ j < (e + 1 + K).toNat then zp_sum (fun i => f (-(K : Int) + (i : Int), -(K : Int) + (j : Int))) (2 * K + 1) else 0), r1, show (e + 1 + K).toNat - (c + K).toNat = (e + 1 - c).toNat by omega]
  · refine gh_cong (fun j hj => ?_)
    have r2 := gh_range (fun i => f (-(K : Int) + (i : Int), -(K : Int) + (((c + K).toNat + j : Nat) : Int))) (a := (a + K).toNat) (b := (b + 1 + K).toNat) (n := 2 * K + 1) (by omega) (by omega)
    rw [gh_cong (g := fun i => if (a + K).toNat ≤ i ∧ i < (b + 1 + K).toNat then f (-(K : Int) + (i : Int), -(K : Int) + (((c + K).toNat + j : Nat) : Int)) else 0), r2, show (b + 1 + K).toNat - (a + K).toNat = (b + 1 - a).toNat by omega]
    · refine gh_cong (fun i _ => ?_)
      rw [show -(K : Int) + (((a + K).toNat + i : Nat) : Int) = a + (i : Int) by omega, show -(K : Int) + (((c + K).toNat + j : Nat) : Int) = c + (j : Int) by omega]
    · intro i _
      by_cases hi : (a + K).toNat ≤ i ∧ i < (b + 1 + K).toNat
      · rw [if_pos hi]
      · rw [if_neg hi]
        exact h0 _ (by simp only; omega)
  · intro j _
    by_cases hj : (c + K).toNat ≤ j ∧ j < (e + 1 + K).toNat
    · rw [if_pos hj]
    · rw [if_neg hj]
      exact gh_zero (fun i _ => h0 _ (by simp only; omega))
/-- outside of the frame of its corners all is outside -/
theorem gm_outside {t : Nat} (ht : 0 < t) (h3 : 3 ≤ n) (hok : zp_ok x y n) {a b c e : Int} (hx : ∀ i, i < n → a ≤ t * x i ∧ t * x i ≤ b) (hy : ∀ i, i < n → c ≤ t * y i ∧ t * y i ≤ e) {Xx Y : Int} (h : Xx < a ∨ b < Xx ∨ Y < c ∨ e < Y) : zw_v x y n Xx Y t ≠ 119 ∧ zw_v x y n Xx Y t ≠ 114 := by
  have hm : ∀ k, k ∈ gm_P x y n t → (a ≤ k.1 ∧ k.1 ≤ b) ∧ (c ≤ k.2 ∧ k.2 ≤ e) := by
    intro k hk
    obtain ⟨i, hi, rfl⟩ := gm_P_mem hk
    exact ⟨hx i hi, hy i hi⟩
  have hno : ∀ f, f ∈ gm_C (gm_P x y n t) → ¬ gm_on f.1 f.2 (Xx, Y) := by
    intro f hf ho
    have m1 : f.1 ∈ gm_P x y n t := by
      have := List.mem_map_of_mem (f := Prod.fst) hf
      rw [gm_C_fst] at this; exact this
    have g1 := hm _ m1
    have g2 := hm _ (gm_C_snd hf)
    obtain ⟨-, o1, o2⟩ := ho
    simp only at o1 o2
    omega
  have hw : gm_w (gm_C (gm_P x y n t)) (Xx, Y) = 0 := by
    refine gm_border hno ?_
    rcases h with h | h | h | h
    · exact Or.inr (Or.inr (Or.inl (fun k hk => by have := (hm k hk).1; simp only; omega)))
    · exact Or.inl (fun k hk => by have := (hm k hk).1; simp only; omega)
    · exact Or.inr (Or.inr (Or.inr (fun k hk => by have := (hm k hk).2; simp only; omega)))
    · exact Or.inr (Or.inl (fun k hk => by have := (hm k hk).2; simp only; omega))
  have hv := gm_val_n hno
  rw [if_pos hw] at hv
  have hg := gm_v (x := x) (y := y) (n := n) (t := (t : Int)) (by omega) h3 hok Xx Y
  rw [hv.1, hv.2] at hg
  constructor
  · intro hc
    rw [if_pos hc] at hg
    omega
  · intro hc
    rw [if_pos hc] at hg
    omega
end RZGS
