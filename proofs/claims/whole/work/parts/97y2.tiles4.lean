/-! part 97y2: level 2: tiles: pairs of squares -/
section RZWY
variable {X : rz_X} {d : Nat} {w w1 : rz_W} {nc ns : Nat} {x y : Nat → Int} {n : Nat} {kp tl kd ty cl th : Int}
def zj_h (A B C : Int) (e f : Nat) : Bool := decide ((((e / 100 : Nat) : Int) - ((f / 100 : Nat) : Int)).tmod A = 0 ∧ ((((e % 100 : Nat) : Int) - ((f % 100 : Nat) : Int)) - (((e / 100 : Nat) : Int) - ((f / 100 : Nat) : Int)).tdiv A * B).tmod C = 0)
theorem zj_rem {A q q' r r' X X' : Int} (h1 : X = r + A * q) (h2 : X' = r' + A * q') (hr : 0 ≤ r ∧ r < A) (hr' : 0 ≤ r' ∧ r' < A) : A ∣ X - X' ↔ r = r' := by
  constructor
  · rintro ⟨c, hc⟩
    have e : r - r' = A * (c - q + q') := by grind
    generalize c - q + q' = t at *
    rcases Int.lt_or_le t 0 with ht | ht
    · have := Int.mul_le_mul_of_nonneg_left (show t ≤ -1 by omega) (show 0 ≤ A by omega)
      omega
    · rcases Int.lt_or_le 0 t with ht2 | ht2
      · have := Int.mul_le_mul_of_nonneg_left (show 1 ≤ t by omega) (show 0 ≤ A by omega)
        omega
      · have : t = 0 := by omega
        rw [this, Int.mul_zero] at e
        omega
  · intro h
    exact ⟨q - q', by rw [h1, h2, h]; grind⟩
theorem zj_eq {A B C : Int} (hA : 1 ≤ A) (hC : 1 ≤ C) {a b a' b' : Nat} : zj_c A B C a b = zj_c A B C a' b' ↔ ((a : Int) - (a' : Int)).tmod A = 0 ∧ (((b : Int) - (b' : Int)) - ((a : Int) - (a' : Int)).tdiv A * B).tmod C = 0 := by
  unfold zj_c zt_cl
  have e1 := Int.emod_add_mul_ediv (-20 + (a : Int)) A
  have e2 := Int.emod_nonneg (-20 + (a : Int)) (show A ≠ 0 by omega)
  have e3 := Int.emod_lt_of_pos (-20 + (a : Int)) (show 0 < A by omega)
  have f1 := Int.emod_add_mul_ediv (-20 + (a' : Int)) A
  have f2 := Int.emod_nonneg (-20 + (a' : Int)) (show A ≠ 0 by omega)
  have f3 := Int.emod_lt_of_pos (-20 + (a' : Int)) (show 0 < A by omega)
  have hm1 : -20 + (a : Int) - (-20 + (a : Int)) / A * A = (-20 + (a : Int)) % A := by
    have := Int.mul_comm A ((-20 + (a : Int)) / A)
    omega
  have hm2 : -20 + (a' : Int) - (-20 + (a' : Int)) / A * A = (-20 + (a' : Int)) % A := by
    have := Int.mul_comm A ((-20 + (a' : Int)) / A)
    omega
  rw [hm1, hm2]
  have hd := zj_rem e1.symm f1.symm ⟨e2, e3⟩ ⟨f2, f3⟩
  rw [show -20 + (a : Int) - (-20 + (a' : Int)) = (a : Int) - (a' : Int) by omega] at hd
  generalize (-20 + (a : Int)) % A = r at *
  generalize (-20 + (a' : Int)) % A = r' at *
  generalize (-20 + (a : Int)) / A = q at *
  generalize (-20 + (a' : Int)) / A = q' at *
  have t1 := Int.emod_nonneg (-20 + (b : Int) - q * B) (show C ≠ 0 by omega)
  have t2 := Int.emod_lt_of_pos (-20 + (b : Int) - q * B) (show 0 < C by omega)
  have t3 := Int.emod_nonneg (-20 + (b' : Int) - q' * B) (show C ≠ 0 by omega)
  have t4 := Int.emod_lt_of_pos (-20 + (b' : Int) - q' * B) (show 0 < C by omega)
  have hsub := Int.emod_emod_of_dvd (-20 + (b : Int) - q * B) (Int.dvd_refl C)
  have hT : (-20 + (b : Int) - q * B) % C = (-20 + (b' : Int) - q' * B) % C ↔ C ∣ (-20 + (b : Int) - q * B) - (-20 + (b' : Int) - q' * B) := Int.emod_eq_emod_iff_emod_sub_eq_zero.trans ⟨Int.dvd_of_emod_eq_zero, Int.emod_eq_zero_of_dvd⟩
  have hmain : (r * C + (-20 + (b : Int) - q * B) % C).toNat = (r' * C + (-20 + (b' : Int) - q' * B) % C).toNat ↔ r = r' ∧ (-20 + (b : Int) - q * B) % C = (-20 + (b' : Int) - q' * B) % C := by
    have p1 := Int.mul_nonneg e2 (show 0 ≤ C by omega)
    have p2 := Int.mul_nonneg f2 (show 0 ≤ C by omega)
    generalize (-20 + (b : Int) - q * B) % C = s at *
    generalize (-20 + (b' : Int) - q' * B) % C = s' at *
    constructor
    · intro h
      have h2 : r * C + s = r' * C + s' := by omega
      have h3 : r = r' := by
        rcases Int.lt_or_le r r' with h4 | h4
        · have := Int.mul_le_mul_of_nonneg_right (show r + 1 ≤ r' by omega) (show 0 ≤ C by omega)
          rw [Int.add_mul, Int.one_mul] at this
          omega
        · rcases Int.lt_or_le r' r with h5 | h5
          · have := Int.mul_le_mul_of_nonneg_right (show r' + 1 ≤ r by omega) (show 0 ≤ C by omega)
            rw [Int.add_mul, Int.one_mul] at this
            omega
          · omega
      exact ⟨h3, by rw [h3] at h2; omega⟩
    · rintro ⟨h1, h2⟩
      rw [h1, h2]
  rw [hmain, hT, ← hd]
  constructor
  · rintro ⟨h1, h2⟩
    refine ⟨Int.tmod_eq_zero_of_dvd h1, Int.tmod_eq_zero_of_dvd ?_⟩
    have hrr := hd.mp h1
    have hdx : (a : Int) - (a' : Int) = (q - q') * A := by rw [hrr] at e1; grind
    rw [hdx, Int.mul_tdiv_cancel _ (show A ≠ 0 by omega)]
    have : (b : Int) - (b' : Int) - (q - q') * B = (-20 + (b : Int) - q * B) - (-20 + (b' : Int) - q' * B) := by grind
    rw [this]
    exact h2
  · rintro ⟨h1, h2⟩
    have h1' := Int.dvd_of_tmod_eq_zero h1
    refine ⟨h1', ?_⟩
    have hrr := hd.mp h1'
    have hdx : (a : Int) - (a' : Int) = (q - q') * A := by rw [hrr] at e1; grind
    rw [hdx, Int.mul_tdiv_cancel _ (show A ≠ 0 by omega)] at h2
    have h2' := Int.dvd_of_tmod_eq_zero h2
    have : (b : Int) - (b' : Int) - (q - q') * B = (-20 + (b : Int) - q * B) - (-20 + (b' : Int) - q' * B) := by grind
    rw [this] at h2'
    exact h2'
theorem zj_mem {sq : Nat → Nat → Bool} (S : Nat) : ∀ e, e ∈ zj_L sq S ↔ ∃ s, s < S ∧ sq (s / 40) (s % 40) = true ∧ e = 100 * (s / 40) + s % 40 := by
  induction S with
  | zero =>
    intro e
    constructor
    · intro h; cases h
    · rintro ⟨s, h, -⟩; omega
  | succ S ih =>
    intro e
    unfold zj_L
    by_cases hs : sq (S / 40) (S % 40) = true
    · rw [if_pos hs, List.mem_append, ih, List.mem_singleton]
      constructor
      · rintro (⟨s, h1, h2⟩ | h)
        · exact ⟨s, by omega, h2⟩
        · exact ⟨S, by omega, hs, h⟩
      · rintro ⟨s, h1, h2, h3⟩
        by_cases hsS : s = S
        · rw [hsS] at h3; exact .inr h3
        · exact .inl ⟨s, by omega, h2, h3⟩
    · rw [if_neg hs, ih]
      constructor
      · rintro ⟨s, h1, h2⟩
        exact ⟨s, by omega, h2⟩
      · rintro ⟨s, h1, h2, h3⟩
        by_cases hsS : s = S
        · rw [hsS] at h2; exact absurd h2 hs
        · exact ⟨s, by omega, h2, h3⟩
theorem zj_pw {sq : Nat → Nat → Bool} (S : Nat) : (zj_L sq S).Pairwise (fun (a b : Nat) => a < b) := by
  induction S with
  | zero => exact List.Pairwise.nil
  | succ S ih =>
    unfold zj_L
    by_cases hs : sq (S / 40) (S % 40) = true
    · rw [if_pos hs, List.pairwise_append]
      refine ⟨ih, List.pairwise_singleton _ _, fun a ha b hb => ?_⟩
      obtain ⟨s, h1, -, h3⟩ := (zj_mem S a).mp ha
      rw [List.mem_singleton.mp hb, h3]
      omega
    · rw [if_neg hs]
      exact ih
theorem zj_lt {sq : Nat → Nat → Bool} {S i c e f : Nat} (hi : (zj_L sq S)[i]? = some e) (hc : (zj_L sq S)[c]? = some f) (h : c < i) : f < e := by
  obtain ⟨h1, rfl⟩ := List.getElem?_eq_some_iff.mp hi
  obtain ⟨h2, rfl⟩ := List.getElem?_eq_some_iff.mp hc
  exact List.pairwise_iff_getElem.mp (zj_pw S) c i h2 h1 h
theorem zj_DP {A B C : Int} {sq : Nat → Nat → Bool} (hA : 1 ≤ A) (hC : 1 ≤ C) : zj_D sq (zj_c A B C) 40 0 ↔ ∀ (i e c f : Nat), (zj_L sq 1600)[i]? = some e → (zj_L sq 1600)[c]? = some f → c < i → zj_h A B C e f = false := by
  have hcode : ∀ {e s : Nat}, e = 100 * (s / 40) + s % 40 → e / 100 = s / 40 ∧ e % 100 = s % 40 := by
    intro e s h
    omega
  constructor
  · intro hD i e c f hi hc hlt
    have hfe := zj_lt hi hc hlt
    obtain ⟨s, s1, s2, s3⟩ := (zj_mem 1600 e).mp (List.mem_of_getElem? hi)
    obtain ⟨t, t1, t2, t3⟩ := (zj_mem 1600 f).mp (List.mem_of_getElem? hc)
    refine decide_eq_false (fun h => ?_)
    have hc1 := hcode s3
    have hc2 := hcode t3
    rw [hc1.1, hc1.2, hc2.1, hc2.2] at h
    have := hD (s / 40) (s % 40) (t / 40) (t % 40) ⟨by omega, by omega⟩ ⟨by omega, by omega⟩ s2 t2 ((zj_eq hA hC).mpr h)
    omega
  · intro H a b a' b' hv hv' hs hs' hcl
    obtain ⟨b1, b2⟩ := hv
    obtain ⟨b3, b4⟩ := hv'
    have m1 : 100 * a + b ∈ zj_L sq 1600 := (zj_mem 1600 _).mpr ⟨40 * a + b, by omega, by rw [show (40 * a + b) / 40 = a by omega, show (40 * a + b) % 40 = b by omega]; exact hs, by omega⟩
    have m2 : 100 * a' + b' ∈ zj_L sq 1600 := (zj_mem 1600 _).mpr ⟨40 * a' + b', by omega, by rw [show (40 * a' + b') / 40 = a' by omega, show (40 * a' + b') % 40 = b' by omega]; exact hs', by omega⟩
    obtain ⟨i, hi⟩ := List.mem_iff_getElem?.mp m1
    obtain ⟨c, hc⟩ := List.mem_iff_getElem?.mp m2
    have d1 : (100 * a + b) / 100 = a := by omega
    have d2 : (100 * a + b) % 100 = b := by omega
    have d3 : (100 * a' + b') / 100 = a' := by omega
    have d4 : (100 * a' + b') % 100 = b' := by omega
    rcases Nat.lt_trichotomy c i with h | h | h
    · have := of_decide_eq_false (H i _ c _ hi hc h)
      rw [d1, d2, d3, d4] at this
      exact absurd ((zj_eq hA hC).mp hcl) this
    · rw [h, hi] at hc
      have := Option.some.inj hc
      omega
    · have := of_decide_eq_false (H c _ i _ hc hi h)
      rw [d1, d2, d3, d4] at this
      exact absurd ((zj_eq hA hC).mp hcl.symm) this
theorem l_prin {fa fb fc : Nat → Int64} {A B C s : Int} {q : Nat} {up : Int32} {L : List Nat} {F : Nat → Int32} (hm : v_model w kp tl kd ty cl th) (ga : v_la w 34 8 fa) (gb : v_la w 35 8 fb) (gc : v_la w 36 8 fc) (h1 : 0 ≤ s) (h2 : s ≤ 7) (ea : fa s.toNat = Int64.ofInt A) (eb : fb s.toNat = Int64.ofInt B) (ec : fc s.toNat = Int64.ofInt C) (hA : 1 ≤ A ∧ A ≤ 1000000) (hB : 0 ≤ B ∧ B ≤ 1000000) (hC : 1 ≤ C ∧ C ≤ 1000000) (hV : v_ia w q 1700 F) (hF : ∀ k e, L[k]? = some e → F k = Int32.ofInt ((e : Nat) : Int)) (hL : L.length ≤ 1600) (hL2 : ∀ e, e ∈ L → e ≤ 5000) {i e : Nat} (hi : L[i]? = some e) (m : Nat) : ∀ (j : Nat) (b : Bool), j + m = i → ∃ (b' : Bool) (l7' : Option Value), rz_G X (d + 1) mz_X11_tiles 257 [some (.ref 32), some (.int (Int32.ofInt s)), some (.int up), some (.ref q), some (.int (Int32.ofInt (L.length : Int))), some (.int (Int32.ofInt (zb b))), some (.int (Int32.ofInt (i : Int))), some (.int (Int32.ofInt (j : Int)))] [] w nc ns = rz_G X (d + 1) mz_X11_tiles 322 [some (.ref 32), some (.int (Int32.ofInt s)), some (.int up), some (.ref q), some (.int (Int32.ofInt (L.length : Int))), some (.int (Int32.ofInt (zb b'))), some (.int (Int32.ofInt (i : Int))), l7'] [] w nc ns ∧ (b' = true ↔ b = true ∧ ∀ c f, j ≤ c → c < i → L[c]? = some f → zj_h A B C e f = false) := by
  have hil := (List.getElem?_eq_some_iff.mp hi).1
  induction m with
  | zero =>
    intro j b hj
    obtain rfl : j = i := by omega
    refine ⟨b, some (.int (Int32.ofInt (j : Int))), ?_, ⟨fun hb => ⟨hb, fun c f h1 h2 => by omega⟩, fun hb => hb.1⟩⟩
    rw [q_X11_tiles_257]
    simp (disch := first | exact nl_i | exact nl_r | exact nl_0 | exact nl_n | exact nl_x | exact kd_r | exact kd_n | exact kd_x | exact kd_o | exact cats0 | exact cats1 | exact cats2 | exact cats3 | exact cats4 | exact nr_i | exact nr_l | exact nr_z0 | exact nr_z1 | exact ft_i | exact ft_l | omega | rfl | assumption | (refine i_ne0 ?_ ?_ ?_ <;> omega) | (refine j_ne0 ?_ ?_ ?_ <;> omega) | (refine i_new ?_ ?_ <;> omega) | (refine bl_t ?_; with_unfolding_all rfl) | exact ft_z0 | exact ft_z1) only [↓reduceIte, q_X11_tiles_259, q_X11_tiles_261, i_add, i_sub, i_mul, i_neg, i_lt, i_le, i_eq, i_tm, i_div, i_j, j_i, j_add, j_sub, j_mul, j_neg, j_lt, j_le, j_eq, j_div, c_lt, c_le, c_gt, c_ge, c_eq, i_nat, rz_k, Nat.add_zero, Nat.zero_add, Nat.add_assoc, Nat.reduceAdd, if_true, if_false, eq_true (show (j : Int) ≤ (j : Int) by omega)]
  | succ m ih =>
    intro j b hj
    have hjl : j < L.length := by omega
    have hjg := ze_get hjl
    generalize L.getD j 0 = f at hjg
    have hFi := hF i e hi
    have hFj := hF j f hjg
    have be := hL2 e (List.mem_of_getElem? hi)
    have bf := hL2 f (List.mem_of_getElem? hjg)
    have t1 : ((e : Nat) : Int).tdiv 100 = ((e / 100 : Nat) : Int) := by
      rw [Int.tdiv_eq_ediv_of_nonneg (by omega)]
      omega
    have t2 : ((f : Nat) : Int).tdiv 100 = ((f / 100 : Nat) : Int) := by
      rw [Int.tdiv_eq_ediv_of_nonneg (by omega)]
      omega
    have t3 : ((e : Nat) : Int) - ((e / 100 : Nat) : Int) * 100 = ((e % 100 : Nat) : Int) := by omega
    have t4 : ((f : Nat) : Int) - ((f / 100 : Nat) : Int) * 100 = ((f % 100 : Nat) : Int) := by omega
    have t5 : ((e : Nat) : Int).tmod 100 = ((e % 100 : Nat) : Int) := by
      rw [Int.tmod_eq_emod_of_nonneg (by omega)]
      omega
    have t6 : ((f : Nat) : Int).tmod 100 = ((f % 100 : Nat) : Int) := by
      rw [Int.tmod_eq_emod_of_nonneg (by omega)]
      omega
    have hh := y_hasIt (X := X) (d := d) (x := ((e / 100 : Nat) : Int) - ((f / 100 : Nat) : Int)) (y := ((e % 100 : Nat) : Int) - ((f % 100 : Nat) : Int)) hm ga gb gc h1 h2 ea eb ec hA hB hC (by omega) (by omega)
    have hv : (if (((e / 100 : Nat) : Int) - ((f / 100 : Nat) : Int)).tmod A = 0 ∧ ((((e % 100 : Nat) : Int) - ((f % 100 : Nat) : Int)) - (((e / 100 : Nat) : Int) - ((f / 100 : Nat) : Int)).tdiv A * B).tmod C = 0 then (1 : Int) else 0) = zb (zj_h A B C e f) := by
      unfold zj_h zb
      simp only [decide_eq_true_eq]
    rw [hv] at hh
    have key : rz_G X (d + 1) mz_X11_tiles 257 [some (.ref 32), some (.int (Int32.ofInt s)), some (.int up), some (.ref q), some (.int (Int32.ofInt (L.length : Int))), some (.int (Int32.ofInt (zb b))), some (.int (Int32.ofInt (i : Int))), some (.int (Int32.ofInt (j : Int)))] [] w nc ns = rz_G X (d + 1) mz_X11_tiles 257 [some (.ref 32), some (.int (Int32.ofInt s)), some (.int up), some (.ref q), some (.int (Int32.ofInt (L.length : Int))), some (.int (Int32.ofInt (zb (b && !zj_h A B C e f)))), some (.int (Int32.ofInt (i : Int))), some (.int (Int32.ofInt ((j + 1 : Nat) : Int)))] [] w nc ns := by
      rw [q_X11_tiles_257]
      clear hv ih
      generalize zj_h A B C e f = hb at *
      cases b
      · simp (disch := first | exact nl_i | exact nl_r | exact nl_0 | exact nl_n | exact nl_x | exact kd_r | exact kd_n | exact kd_x | exact kd_o | exact cats0 | exact cats1 | exact cats2 | exact cats3 | exact cats4 | exact nr_i | exact nr_l | exact nr_z0 | exact nr_z1 | exact ft_i | exact ft_l | omega | rfl | assumption | (refine i_ne0 ?_ ?_ ?_ <;> omega) | (refine j_ne0 ?_ ?_ ?_ <;> omega) | (refine i_new ?_ ?_ <;> omega) | (refine bl_t ?_; with_unfolding_all rfl) | exact ft_z0 | exact ft_z1) only [↓reduceIte, q_X11_tiles_259, q_X11_tiles_261, q_X11_tiles_264, q_X11_tiles_266, q_X11_tiles_269, q_X11_tiles_270, q_X11_tiles_271, q_X11_tiles_272, q_X11_tiles_274, q_X11_tiles_274x, q_X11_tiles_275, q_X11_tiles_277, q_X11_tiles_278, q_X11_tiles_279, q_X11_tiles_281, q_X11_tiles_281x, q_X11_tiles_282, q_X11_tiles_284, q_X11_tiles_285, q_X11_tiles_286, q_X11_tiles_287, q_X11_tiles_288, q_X11_tiles_290, q_X11_tiles_290x, q_X11_tiles_291, q_X11_tiles_293, q_X11_tiles_294, q_X11_tiles_295, q_X11_tiles_297, q_X11_tiles_297x, q_X11_tiles_298, q_X11_tiles_300, q_X11_tiles_301, q_X11_tiles_302, q_X11_tiles_303, q_X11_tiles_306, q_X11_tiles_309, q_X11_tiles_310, q_X11_tiles_313, q_X11_tiles_314, q_X11_tiles_316, q_X11_tiles_319, i_add, i_sub, i_mul, i_neg, i_lt, i_le, i_eq, i_tm, i_div, i_j, j_i, j_add, j_sub, j_mul, j_neg, j_lt, j_le, j_eq, j_div, c_lt, c_le, c_gt, c_ge, c_eq, i_nat, rz_k, Nat.add_zero, Nat.zero_add, Nat.add_assoc, Nat.reduceAdd, if_true, if_false, eq_false (show ¬ (i : Int) ≤ (j : Int) by omega), zb_f, Bool.false_and]
        rfl
      · cases hb <;> simp (disch := first | exact nl_i | exact nl_r | exact nl_0 | exact nl_n | exact nl_x | exact kd_r | exact kd_n | exact kd_x | exact kd_o | exact cats0 | exact cats1 | exact cats2 | exact cats3 | exact cats4 | exact nr_i | exact nr_l | exact nr_z0 | exact nr_z1 | exact ft_i | exact ft_l | omega | rfl | assumption | (refine i_ne0 ?_ ?_ ?_ <;> omega) | (refine j_ne0 ?_ ?_ ?_ <;> omega) | (refine i_new ?_ ?_ <;> omega) | (refine bl_t ?_; with_unfolding_all rfl) | exact ft_z0 | exact ft_z1) only [↓reduceIte, q_X11_tiles_259, q_X11_tiles_261, q_X11_tiles_264, q_X11_tiles_266, q_X11_tiles_269, q_X11_tiles_270, q_X11_tiles_271, q_X11_tiles_272, q_X11_tiles_274, q_X11_tiles_274x, q_X11_tiles_275, q_X11_tiles_277, q_X11_tiles_278, q_X11_tiles_279, q_X11_tiles_281, q_X11_tiles_281x, q_X11_tiles_282, q_X11_tiles_284, q_X11_tiles_285, q_X11_tiles_286, q_X11_tiles_287, q_X11_tiles_288, q_X11_tiles_290, q_X11_tiles_290x, q_X11_tiles_291, q_X11_tiles_293, q_X11_tiles_294, q_X11_tiles_295, q_X11_tiles_297, q_X11_tiles_297x, q_X11_tiles_298, q_X11_tiles_300, q_X11_tiles_301, q_X11_tiles_302, q_X11_tiles_303, q_X11_tiles_306, q_X11_tiles_309, q_X11_tiles_310, q_X11_tiles_313, q_X11_tiles_314, q_X11_tiles_316, q_X11_tiles_319, i_add, i_sub, i_mul, i_neg, i_lt, i_le, i_eq, i_tm, i_div, i_j, j_i, j_add, j_sub, j_mul, j_neg, j_lt, j_le, j_eq, j_div, c_lt, c_le, c_gt, c_ge, c_eq, i_nat, rz_k, Nat.add_zero, Nat.zero_add, Nat.add_assoc, Nat.reduceAdd, if_true, if_false, vk_eq hm, eq_false (show ¬ (i : Int) ≤ (j : Int) by omega), zb_f, zb_t, Bool.true_and, Bool.not_true, Bool.not_false, Int.reduceEq, ai_eq hV, Int.toNat_natCast, hFi, hFj, t1, t2, t3, t4, t5, t6, hh, not_true_eq_false, not_false_eq_true] <;> rfl
    obtain ⟨b', l7', e2, hb⟩ := ih (j + 1) (b && !zj_h A B C e f) (by omega)
    refine ⟨b', l7', key.trans e2, hb.trans ?_⟩
    rw [Bool.and_eq_true, Bool.not_eq_true']
    constructor
    · rintro ⟨⟨a1, a2⟩, a3⟩
      refine ⟨a1, fun c f2 k1 k2 k3 => ?_⟩
      by_cases hk : c = j
      · rw [hk, hjg] at k3
        rw [← Option.some.inj k3]
        exact a2
      · exact a3 c f2 (by omega) k2 k3
    · rintro ⟨a1, a3⟩
      exact ⟨⟨a1, a3 j f (Nat.le_refl _) (by omega) hjg⟩, fun c f2 k1 k2 k3 => a3 c f2 (by omega) k2 k3⟩
theorem l_prout {fa fb fc : Nat → Int64} {A B C s : Int} {q : Nat} {up : Int32} {L : List Nat} {F : Nat → Int32} (hm : v_model w kp tl kd ty cl th) (ga : v_la w 34 8 fa) (gb : v_la w 35 8 fb) (gc : v_la w 36 8 fc) (h1 : 0 ≤ s) (h2 : s ≤ 7) (ea : fa s.toNat = Int64.ofInt A) (eb : fb s.toNat = Int64.ofInt B) (ec : fc s.toNat = Int64.ofInt C) (hA : 1 ≤ A ∧ A ≤ 1000000) (hB : 0 ≤ B ∧ B ≤ 1000000) (hC : 1 ≤ C ∧ C ≤ 1000000) (hV : v_ia w q 1700 F) (hF : ∀ k e, L[k]? = some e → F k = Int32.ofInt ((e : Nat) : Int)) (hL : L.length ≤ 1600) (hL2 : ∀ e, e ∈ L → e ≤ 5000) (m : Nat) : ∀ (i : Nat) (b : Bool) (l7 : Option Value), i + m = L.length → ∃ (b' : Bool), rz_G X (d + 1) mz_X11_tiles 242 [some (.ref 32), some (.int (Int32.ofInt s)), some (.int up), some (.ref q), some (.int (Int32.ofInt (L.length : Int))), some (.int (Int32.ofInt (zb b))), some (.int (Int32.ofInt (i : Int))), l7] [] w nc ns = some (.inl (some (.int (Int32.ofInt (zb b')))), w, nc, ns) ∧ (b' = true ↔ b = true ∧ ∀ k e c f, i ≤ k → L[k]? = some e → L[c]? = some f → c < k → zj_h A B C e f = false) := by
  induction m with
  | zero =>
    intro i b l7 hi
    obtain rfl : i = L.length := by omega
    refine ⟨b, ?_, ⟨fun hb => ⟨hb, fun k e c f k1 k2 => by have := (List.getElem?_eq_some_iff.mp k2).1; omega⟩, fun hb => hb.1⟩⟩
    rw [q_X11_tiles_242]
    cases b <;> simp (disch := first | exact nl_i | exact nl_r | exact nl_0 | exact nl_n | exact nl_x | exact kd_r | exact kd_n | exact kd_x | exact kd_o | exact cats0 | exact cats1 | exact cats2 | exact cats3 | exact cats4 | exact nr_i | exact nr_l | exact nr_z0 | exact nr_z1 | exact ft_i | exact ft_l | omega | rfl | assumption | (refine i_ne0 ?_ ?_ ?_ <;> omega) | (refine j_ne0 ?_ ?_ ?_ <;> omega) | (refine i_new ?_ ?_ <;> omega) | (refine bl_t ?_; with_unfolding_all rfl) | exact ft_z0 | exact ft_z1) only [↓reduceIte, q_X11_tiles_244, q_X11_tiles_246, q_X11_tiles_328, q_X11_tiles_330, i_add, i_sub, i_mul, i_neg, i_lt, i_le, i_eq, i_tm, i_div, i_j, j_i, j_add, j_sub, j_mul, j_neg, j_lt, j_le, j_eq, j_div, c_lt, c_le, c_gt, c_ge, c_eq, i_nat, rz_k, Nat.add_zero, Nat.zero_add, Nat.add_assoc, Nat.reduceAdd, if_true, if_false, eq_true (show (L.length : Int) ≤ (L.length : Int) by omega), zb_t, zb_f]
  | succ m ih =>
    intro i b l7 hi
    have hil : i < L.length := by omega
    have hig := ze_get hil
    generalize L.getD i 0 = e at hig
    cases b
    · refine ⟨false, ?_, ⟨fun c => (by cases c), fun c => (by cases c.1)⟩⟩
      rw [q_X11_tiles_242]
      simp (disch := first | exact nl_i | exact nl_r | exact nl_0 | exact nl_n | exact nl_x | exact kd_r | exact kd_n | exact kd_x | exact kd_o | exact cats0 | exact cats1 | exact cats2 | exact cats3 | exact cats4 | exact nr_i | exact nr_l | exact nr_z0 | exact nr_z1 | exact ft_i | exact ft_l | omega | rfl | assumption | (refine i_ne0 ?_ ?_ ?_ <;> omega) | (refine j_ne0 ?_ ?_ ?_ <;> omega) | (refine i_new ?_ ?_ <;> omega) | (refine bl_t ?_; with_unfolding_all rfl) | exact ft_z0 | exact ft_z1) only [↓reduceIte, q_X11_tiles_244, q_X11_tiles_246, q_X11_tiles_249, q_X11_tiles_251, q_X11_tiles_328, q_X11_tiles_330, i_add, i_sub, i_mul, i_neg, i_lt, i_le, i_eq, i_tm, i_div, i_j, j_i, j_add, j_sub, j_mul, j_neg, j_lt, j_le, j_eq, j_div, c_lt, c_le, c_gt, c_ge, c_eq, i_nat, rz_k, Nat.add_zero, Nat.zero_add, Nat.add_assoc, Nat.reduceAdd, if_true, if_false, eq_false (show ¬ (L.length : Int) ≤ (i : Int) by omega), zb_f]
    · obtain ⟨b1, l71, e1, hb1⟩ := l_prin (X := X) (d := d) (nc := nc) (ns := ns) (up := up) hm ga gb gc h1 h2 ea eb ec hA hB hC hV hF hL hL2 hig i 0 true (by omega)
      obtain ⟨b2, e2, hb2⟩ := ih (i + 1) b1 l71 (by omega)
      refine ⟨b2, ?_, hb2.trans ?_⟩
      · have e0 : rz_G X (d + 1) mz_X11_tiles 242 [some (.ref 32), some (.int (Int32.ofInt s)), some (.int up), some (.ref q), some (.int (Int32.ofInt (L.length : Int))), some (.int (Int32.ofInt (zb true))), some (.int (Int32.ofInt (i : Int))), l7] [] w nc ns = rz_G X (d + 1) mz_X11_tiles 257 [some (.ref 32), some (.int (Int32.ofInt s)), some (.int up), some (.ref q), some (.int (Int32.ofInt (L.length : Int))), some (.int (Int32.ofInt (zb true))), some (.int (Int32.ofInt (i : Int))), some (.int (Int32.ofInt ((0 : Nat) : Int)))] [] w nc ns := by
          rw [q_X11_tiles_242]
          simp (disch := first | exact nl_i | exact nl_r | exact nl_0 | exact nl_n | exact nl_x | exact kd_r | exact kd_n | exact kd_x | exact kd_o | exact cats0 | exact cats1 | exact cats2 | exact cats3 | exact cats4 | exact nr_i | exact nr_l | exact nr_z0 | exact nr_z1 | exact ft_i | exact ft_l | omega | rfl | assumption | (refine i_ne0 ?_ ?_ ?_ <;> omega) | (refine j_ne0 ?_ ?_ ?_ <;> omega) | (refine i_new ?_ ?_ <;> omega) | (refine bl_t ?_; with_unfolding_all rfl) | exact ft_z0 | exact ft_z1) only [↓reduceIte, q_X11_tiles_244, q_X11_tiles_246, q_X11_tiles_249, q_X11_tiles_251, q_X11_tiles_254, q_X11_tiles_255, i_add, i_sub, i_mul, i_neg, i_lt, i_le, i_eq, i_tm, i_div, i_j, j_i, j_add, j_sub, j_mul, j_neg, j_lt, j_le, j_eq, j_div, c_lt, c_le, c_gt, c_ge, c_eq, i_nat, rz_k, Nat.add_zero, Nat.zero_add, Nat.add_assoc, Nat.reduceAdd, if_true, if_false, eq_false (show ¬ (L.length : Int) ≤ (i : Int) by omega), zb_t, Int.reduceEq]
          rfl
        rw [e0, e1, ← e2, q_X11_tiles_322 nl_i]
        simp (disch := first | exact nl_i | exact nl_r | exact nl_0 | exact nl_n | exact nl_x | exact kd_r | exact kd_n | exact kd_x | exact kd_o | exact cats0 | exact cats1 | exact cats2 | exact cats3 | exact cats4 | exact nr_i | exact nr_l | exact nr_z0 | exact nr_z1 | exact ft_i | exact ft_l | omega | rfl | assumption | (refine i_ne0 ?_ ?_ ?_ <;> omega) | (refine j_ne0 ?_ ?_ ?_ <;> omega) | (refine i_new ?_ ?_ <;> omega) | (refine bl_t ?_; with_unfolding_all rfl) | exact ft_z0 | exact ft_z1) only [q_X11_tiles_325, i_add, i_sub, i_mul, i_neg, i_lt, i_le, i_eq, i_tm, i_div, i_j, j_i, j_add, j_sub, j_mul, j_neg, j_lt, j_le, j_eq, j_div, c_lt, c_le, c_gt, c_ge, c_eq, i_nat, rz_k, Nat.add_zero, Nat.zero_add, Nat.add_assoc, Nat.reduceAdd, if_true, if_false]
        rfl
      · rw [hb1]
        constructor
        · rintro ⟨⟨a1, a2⟩, a3⟩
          refine ⟨a1, fun k e' c f k1 k2 k3 k4 => ?_⟩
          by_cases hk : k = i
          · rw [hk, hig] at k2
            rw [← Option.some.inj k2]
            exact a2 c f (Nat.zero_le _) (by omega) k3
          · exact a3 k e' c f (by omega) k2 k3 k4
        · rintro ⟨a1, a3⟩
          exact ⟨⟨a1, fun c f _ k2 k3 => a3 i e c f (Nat.le_refl _) hig k3 k2⟩, fun k e' c f k1 k2 k3 k4 => a3 k e' c f (by omega) k2 k3 k4⟩
end RZWY
