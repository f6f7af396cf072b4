/-! part 91: level 2: sums over a row of numbers; how many steps: the numbers -/
section RZNE
/-- the sum of F over so many numbers from lo on -/
def zf_s (F : Int → Int) (lo : Int) : Nat → Int
  | 0 => 0
  | n + 1 => F lo + zf_s F (lo + 1) n
/-- the sum of F from lo to hi -/
def zf_i (F : Int → Int) (lo hi : Int) : Int := zf_s F lo (hi + 1 - lo).toNat
theorem zi_nil {F : Int → Int} {lo hi : Int} (h : hi < lo) : zf_i F lo hi = 0 := by
  unfold zf_i
  rw [show (hi + 1 - lo).toNat = 0 by omega]
  rfl
theorem zi_cons {F : Int → Int} {lo hi : Int} (h : lo ≤ hi) : zf_i F lo hi = F lo + zf_i F (lo + 1) hi := by
  unfold zf_i
  rw [show (hi + 1 - lo).toNat = (hi + 1 - (lo + 1)).toNat + 1 by omega]
  rfl
theorem zi_skip {F : Int → Int} {hi : Int} (n : Nat) : ∀ {lo m : Int}, (m - lo).toNat = n → lo ≤ m → (∀ y, lo ≤ y → y < m → y ≤ hi → F y = 0) → zf_i F lo hi = zf_i F m hi := by
  induction n with
  | zero => intro lo m h1 h2 h3; rw [show lo = m by omega]
  | succ n ih =>
    intro lo m h1 h2 h3
    rcases Int.lt_or_le hi lo with h | h
    · rw [zi_nil h, zi_nil (by omega)]
    · rw [zi_cons h, h3 lo (by omega) (by omega) h, Int.zero_add]
      exact ih (by omega) (by omega) (fun y h4 h5 h6 => h3 y (by omega) h5 h6)
theorem zi_congr {F G : Int → Int} {hi : Int} (n : Nat) : ∀ {lo : Int}, (hi + 1 - lo).toNat = n → (∀ y, lo ≤ y → y ≤ hi → F y = G y) → zf_i F lo hi = zf_i G lo hi := by
  induction n with
  | zero => intro lo h1 h2; rw [zi_nil (by omega), zi_nil (by omega)]
  | succ n ih =>
    intro lo h1 h2
    rw [zi_cons (F := F) (show lo ≤ hi by omega), zi_cons (F := G) (show lo ≤ hi by omega), h2 lo (by omega) (by omega), ih (by omega) (fun y h4 h5 => h2 y (by omega) h5)]
theorem zi_bd {F : Int → Int} {hi M : Int} (n : Nat) : ∀ {lo : Int}, (hi + 1 - lo).toNat = n → (∀ y, lo ≤ y → y ≤ hi → 0 ≤ F y ∧ F y ≤ M) → 0 ≤ zf_i F lo hi ∧ zf_i F lo hi ≤ (n : Int) * M := by
  induction n with
  | zero => intro lo h1 h2; rw [zi_nil (by omega)]; omega
  | succ n ih =>
    intro lo h1 h2
    rw [zi_cons (by omega), Int.natCast_add, Int.add_mul]
    have := h2 lo (by omega) (by omega)
    have := ih (lo := lo + 1) (by omega) (fun y h4 h5 => h2 y (by omega) h5)
    omega
/-- whether a place counts as a step -/
def zf_st (L a b c x y : Int) : Int := if x * x + y * y ≤ L ∧ x.tmod a = 0 ∧ (y - x.tdiv a * b).tmod c = 0 then 1 else 0
theorem st_no {L a b c x y : Int} (h : ¬ x.tmod a = 0) : zf_st L a b c x y = 0 := if_neg (fun c => h c.2.1)
theorem st_row {L a b c x : Int} (h : ¬ x.tmod a = 0) : zf_i (zf_st L a b c x) (-50) 50 = 0 := by
  rw [zi_skip (hi := 50) (lo := -50) (m := 51) (F := zf_st L a b c x) 101 (by omega) (by omega) (fun y _ _ _ => st_no h)]
  exact zi_nil (by omega)
theorem st_y {L a b c i y : Int} (ha : 1 ≤ a) (hc : 1 ≤ c) (hy : c ∣ y - i * b) (h : y ≤ 50) : zf_i (zf_st L a b c (i * a)) y 50 = (if i * a * (i * a) + y * y ≤ L then 1 else 0) + zf_i (zf_st L a b c (i * a)) (y + c) 50 := by
  have e1 : (i * a).tmod a = 0 := Int.mul_tmod_left _ _
  have e2 : (i * a).tdiv a = i := Int.mul_tdiv_cancel _ (by omega)
  rw [zi_cons h]
  congr 1
  · unfold zf_st
    rw [e1, e2]
    have : (y - i * b).tmod c = 0 := Int.tmod_eq_zero_of_dvd hy
    by_cases hl : i * a * (i * a) + y * y ≤ L
    · rw [if_pos hl, if_pos ⟨hl, rfl, this⟩]
    · rw [if_neg hl, if_neg (fun h => hl h.1)]
  · refine zi_skip (c - 1).toNat (by omega) (by omega) ?_
    intro z h1 h2 _
    unfold zf_st
    rw [e2]
    refine if_neg (fun hh => ?_)
    have h3 := Int.dvd_of_tmod_eq_zero hh.2.2
    have h4 := Int.dvd_sub h3 hy
    have h5 := Int.le_of_dvd (by omega) h4
    omega
theorem st_x {L a b c i : Int} (ha : 1 ≤ a) (h : i * a ≤ 50) : zf_i (fun x => zf_i (zf_st L a b c x) (-50) 50) (i * a) 50 = zf_i (zf_st L a b c (i * a)) (-50) 50 + zf_i (fun x => zf_i (zf_st L a b c x) (-50) 50) ((i + 1) * a) 50 := by
  rw [zi_cons h]
  congr 1
  refine zi_skip (a - 1).toNat (by rw [Int.add_mul]; omega) (by rw [Int.add_mul]; omega) ?_
  intro x h1 h2 _
  refine st_row (fun hx => ?_)
  have h3 := Int.dvd_of_tmod_eq_zero hx
  have h4 := Int.dvd_sub h3 (Int.dvd_mul_left i a)
  have h5 := Int.le_of_dvd (by omega) h4
  rw [Int.add_mul] at h2
  omega
theorem st_0 {L a b c i : Int} (h1 : -50 ≤ i * a) (h2 : (i - 1) * a < -50) : zf_i (fun x => zf_i (zf_st L a b c x) (-50) 50) (-50) 50 = zf_i (fun x => zf_i (zf_st L a b c x) (-50) 50) (i * a) 50 := by
  refine zi_skip (i * a + 50).toNat (by omega) (by omega) ?_
  intro x h3 h4 _
  refine st_row (fun hx => ?_)
  have h5 := Int.dvd_of_tmod_eq_zero hx
  have h6 := Int.dvd_sub (Int.dvd_mul_left i a) h5
  have h7 := Int.le_of_dvd (by omega) h6
  rw [Int.sub_mul] at h2
  omega
theorem st_yy {L a b c i y : Int} (h1 : -50 ≤ y) (h2 : y - c < -50) (ha : 1 ≤ a) (hy : c ∣ y - i * b) : zf_i (zf_st L a b c (i * a)) (-50) 50 = zf_i (zf_st L a b c (i * a)) y 50 := by
  have e2 : (i * a).tdiv a = i := Int.mul_tdiv_cancel _ (by omega)
  refine zi_skip (y + 50).toNat (by omega) (by omega) ?_
  intro z h3 h4 _
  unfold zf_st
  rw [e2]
  refine if_neg (fun hh => ?_)
  have h3 := Int.dvd_of_tmod_eq_zero hh.2.2
  have h4 := Int.dvd_sub hy h3
  have h5 := Int.le_of_dvd (by omega) h4
  omega
theorem st_k {a : Int} (h : 1 ≤ a) : 0 ≤ (50 : Int).tdiv a ∧ (50 : Int).tdiv a ≤ 50 ∧ (50 : Int).tdiv a * a ≤ 50 ∧ 50 < ((50 : Int).tdiv a + 1) * a := by
  rw [Int.tdiv_eq_ediv_of_nonneg (by omega)]
  have h1 := Int.mul_ediv_add_emod 50 a
  have h2 := Int.emod_nonneg 50 (show a ≠ 0 by omega)
  have h3 := Int.emod_lt_of_pos 50 (show 0 < a by omega)
  have h4 := Int.ediv_nonneg (show (0 : Int) ≤ 50 by omega) (show 0 ≤ a by omega)
  have h5 : 50 / a ≤ 50 := Int.ediv_le_self _ (by omega)
  rw [Int.add_mul, Int.mul_comm (50 / a) a]
  omega
end RZNE
