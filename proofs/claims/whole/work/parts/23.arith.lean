/-! part 23: level 2: numbers of the machine as whole numbers; a world's cells under a write and behind a making -/
section RZI
variable {a b : Int}
theorem i_add : Int32.ofInt a + Int32.ofInt b = Int32.ofInt (a + b) := (Int32.ofInt_add a b).symm
theorem i_sub : Int32.ofInt a - Int32.ofInt b = Int32.ofInt (a - b) := (Int32.ofInt_sub a b).symm
theorem i_mul : Int32.ofInt a * Int32.ofInt b = Int32.ofInt (a * b) := (Int32.ofInt_mul a b).symm
theorem i_neg : -Int32.ofInt a = Int32.ofInt (-a) := (Int32.ofInt_neg a).symm
theorem i_to (h1 : -2147483648 ≤ a) (h2 : a ≤ 2147483647) : (Int32.ofInt a).toInt = a := Int32.toInt_ofInt_of_le (by omega) (by omega)
theorem i_lt (h1 : -2147483648 ≤ a) (h2 : a ≤ 2147483647) (h3 : -2147483648 ≤ b) (h4 : b ≤ 2147483647) : (Int32.ofInt a < Int32.ofInt b) = (a < b) := by
  rw [Int32.lt_iff_toInt_lt, i_to h1 h2, i_to h3 h4]
theorem i_le (h1 : -2147483648 ≤ a) (h2 : a ≤ 2147483647) (h3 : -2147483648 ≤ b) (h4 : b ≤ 2147483647) : (Int32.ofInt a ≤ Int32.ofInt b) = (a ≤ b) := by
  rw [Int32.le_iff_toInt_le, i_to h1 h2, i_to h3 h4]
theorem i_eq (h1 : -2147483648 ≤ a) (h2 : a ≤ 2147483647) (h3 : -2147483648 ≤ b) (h4 : b ≤ 2147483647) : (Int32.ofInt a = Int32.ofInt b) = (a = b) := by
  apply propext
  constructor
  · intro h
    have := congrArg Int32.toInt h
    rwa [i_to h1 h2, i_to h3 h4] at this
  · rintro rfl; rfl
theorem i_eq0 (h1 : -2147483648 ≤ a) (h2 : a ≤ 2147483647) : (Int32.ofInt a = 0) = (a = 0) := i_eq (b := 0) h1 h2 (by omega) (by omega)
theorem i_nat (h1 : 0 ≤ a) (h2 : a ≤ 2147483647) : (Int32.ofInt a).toNatClampNeg = a.toNat := Int32.toNatClampNeg_ofInt_of_le (by omega) (by omega)
theorem i_div (h1 : -2147483648 ≤ a) (h2 : a ≤ 2147483647) (h3 : -2147483648 ≤ b) (h4 : b ≤ 2147483647) : Int32.ofInt a / Int32.ofInt b = Int32.ofInt (a.tdiv b) := by
  have := Int32.ofInt_tdiv (a := a) (b := b) (by show (-2147483648 : Int) ≤ a; exact h1) (by show a ≤ (2147483647 : Int); exact h2) (by show (-2147483648 : Int) ≤ b; exact h3) (by show b ≤ (2147483647 : Int); exact h4)
  exact this.symm
theorem i_tm : a - a.tdiv b * b = a.tmod b := by rw [Int.tmod_def, Int.mul_comm]
theorem j_add : Int64.ofInt a + Int64.ofInt b = Int64.ofInt (a + b) := (Int64.ofInt_add a b).symm
theorem j_sub : Int64.ofInt a - Int64.ofInt b = Int64.ofInt (a - b) := (Int64.ofInt_sub a b).symm
theorem j_mul : Int64.ofInt a * Int64.ofInt b = Int64.ofInt (a * b) := (Int64.ofInt_mul a b).symm
theorem j_neg : -Int64.ofInt a = Int64.ofInt (-a) := (Int64.ofInt_neg a).symm
theorem j_to (h1 : -9223372036854775808 ≤ a) (h2 : a ≤ 9223372036854775807) : (Int64.ofInt a).toInt = a := Int64.toInt_ofInt_of_le (by omega) (by omega)
theorem j_lt (h1 : -9223372036854775808 ≤ a) (h2 : a ≤ 9223372036854775807) (h3 : -9223372036854775808 ≤ b) (h4 : b ≤ 9223372036854775807) : (Int64.ofInt a < Int64.ofInt b) = (a < b) := by
  rw [Int64.lt_iff_toInt_lt, j_to h1 h2, j_to h3 h4]
theorem j_le (h1 : -9223372036854775808 ≤ a) (h2 : a ≤ 9223372036854775807) (h3 : -9223372036854775808 ≤ b) (h4 : b ≤ 9223372036854775807) : (Int64.ofInt a ≤ Int64.ofInt b) = (a ≤ b) := by
  rw [Int64.le_iff_toInt_le, j_to h1 h2, j_to h3 h4]
theorem j_eq (h1 : -9223372036854775808 ≤ a) (h2 : a ≤ 9223372036854775807) (h3 : -9223372036854775808 ≤ b) (h4 : b ≤ 9223372036854775807) : (Int64.ofInt a = Int64.ofInt b) = (a = b) := by
  apply propext
  constructor
  · intro h
    have := congrArg Int64.toInt h
    rwa [j_to h1 h2, j_to h3 h4] at this
  · rintro rfl; rfl
theorem j_eq0 (h1 : -9223372036854775808 ≤ a) (h2 : a ≤ 9223372036854775807) : (Int64.ofInt a = 0) = (a = 0) := j_eq (b := 0) h1 h2 (by omega) (by omega)
theorem j_div (h1 : -9223372036854775808 ≤ a) (h2 : a ≤ 9223372036854775807) (h3 : -9223372036854775808 ≤ b) (h4 : b ≤ 9223372036854775807) : Int64.ofInt a / Int64.ofInt b = Int64.ofInt (a.tdiv b) := by
  have := Int64.ofInt_tdiv (a := a) (b := b) (by show (-9223372036854775808 : Int) ≤ a; exact h1) (by show a ≤ (9223372036854775807 : Int); exact h2) (by show (-9223372036854775808 : Int) ≤ b; exact h3) (by show b ≤ (9223372036854775807 : Int); exact h4)
  exact this.symm
/-- an int made long, a long made int -/
theorem i_j (h1 : -2147483648 ≤ a) (h2 : a ≤ 2147483647) : (Int32.ofInt a).toInt64 = Int64.ofInt a := Int32.toInt64_ofInt (by show (-2147483648 : Int) ≤ a; exact h1) (by show a ≤ (2147483647 : Int); exact h2)
theorem j_i : (Int64.ofInt a).toInt32 = Int32.ofInt a := by
  apply Int32.toInt_inj.1
  rw [Int64.toInt_toInt32, Int64.toInt_ofInt, Int32.toInt_ofInt]
  exact Int.bmod_bmod_of_dvd (by decide)
/-- comparisons of longs -/
theorem c_lt {x y : Int64} : (lg_cmp x y < Int32.ofInt 0) = (x < y) := propext (lg_cmp_lt x y)
theorem c_le {x y : Int64} : (lg_cmp x y ≤ Int32.ofInt 0) = (x ≤ y) := propext (lg_cmp_le x y)
theorem c_gt {x y : Int64} : (Int32.ofInt 0 < lg_cmp x y) = (y < x) := propext (lg_cmp_gt x y)
theorem c_ge {x y : Int64} : (Int32.ofInt 0 ≤ lg_cmp x y) = (y ≤ x) := propext (lg_cmp_ge x y)
theorem c_eq {x y : Int64} : (lg_cmp x y = Int32.ofInt 0) = (x = y) := propext (lg_cmp_eq x y)
/-- an index within -/
theorem i_in {n : Nat} (h1 : 0 ≤ a) (h2 : a < n) (h3 : a ≤ 2147483647) : ¬ (Int32.ofInt a < 0 ∨ n ≤ (Int32.ofInt a).toNatClampNeg) := by
  rw [i_nat h1 h3]
  intro h
  rcases h with h | h
  · have := (i_lt (b := 0) (by omega) h3 (by omega) (by omega)).mp h
    omega
  · omega
/-- a length of a new array -/
theorem i_new (h1 : 0 ≤ a) (h2 : a ≤ 1000000) : ¬ (Int32.ofInt a < 0 ∨ 1000000 < (Int32.ofInt a).toNatClampNeg) := by
  rw [i_nat h1 (by omega)]
  intro h
  rcases h with h | h
  · have := (i_lt (b := 0) (by omega) (by omega) (by omega) (by omega)).mp h
    omega
  · omega
end RZI
section RZWA
variable {w : rz_W} {p q n k c ci : Nat} {e : rz_E} {i : Int} {f : Nat → Int32} {fl : Nat → Int64} {fs : List Value} {K : rz_K} {Ki : Int32 → Option rz_R} {Kl : Int64 → Option rz_R} {Kw : rz_W → Option rz_R} {z : Option rz_R}
theorem w_ne (h : p ≠ q) : (w.set p e)[q]? = w[q]? := List.getElem?_set_ne h
theorem w_eq (h : p < w.length) : (w.set p e)[p]? = some e := List.getElem?_set_self h
theorem w_old (h : q < w.length) : (w ++ [e])[q]? = w[q]? := List.getElem?_append_left h
theorem w_new : (w ++ [e])[w.length]? = some e := by rw [List.getElem?_append_right (Nat.le_refl _), Nat.sub_self]; rfl
theorem w_lt {u : rz_E} (h : w[p]? = some u) : p < w.length := (List.getElem?_eq_some_iff.mp h).1
-- a field
theorem gf_ne (h : p ≠ q) : rz_gf (w.set p e) q ci k K = rz_gf w q ci k K := by unfold rz_gf; rw [w_ne h]
theorem gf_eq (h : w[p]? = some (.inr (ci, fs))) : rz_gf w p ci k K = match fs[k]? with | some v => K v | none => none := by unfold rz_gf; rw [h]; exact if_pos rfl
theorem gf_self (h : p < w.length) : rz_gf (w.set p (.inr (ci, fs))) p ci k K = match fs[k]? with | some v => K v | none => none := gf_eq (w_eq h)
theorem gf_old (h : q < w.length) : rz_gf (w ++ [e]) q ci k K = rz_gf w q ci k K := by unfold rz_gf; rw [w_old h]
theorem gf_new : rz_gf (w ++ [.inr (ci, fs)]) w.length ci k K = match fs[k]? with | some v => K v | none => none := gf_eq w_new
-- an object's class
theorem vk_ne (h : p ≠ q) : rz_vc (w.set p e) q c z = rz_vc w q c z := by unfold rz_vc; rw [w_ne h]
theorem vk_eq (h : w[p]? = some (.inr (c, fs))) : rz_vc w p c z = z := by unfold rz_vc; rw [h]; exact if_pos rfl
theorem vk_self (h : p < w.length) : rz_vc (w.set p (.inr (c, fs))) p c z = z := vk_eq (w_eq h)
theorem vk_old (h : q < w.length) : rz_vc (w ++ [e]) q c z = rz_vc w q c z := by unfold rz_vc; rw [w_old h]
theorem vk_new : rz_vc (w ++ [.inr (c, fs)]) w.length c z = z := vk_eq w_new
-- writes of fields
theorem pf_eq {ty : FieldType} {v : Value} (h : w[p]? = some (.inr (ci, fs))) (h1 : narrow ty v = v) (h2 : fits ty v = true) (h3 : Nat.blt k fs.length = true) : rz_pf w p ci k ty v Kw = Kw (w.set p (.inr (ci, fs.set k v))) := by
  unfold rz_pf
  rw [h]
  exact if_pos ⟨rfl, h1, h2, by simpa [Nat.blt_eq] using h3⟩
theorem pf_self {ty : FieldType} {v : Value} (h : p < w.length) (h1 : narrow ty v = v) (h2 : fits ty v = true) (h3 : Nat.blt k fs.length = true) : rz_pf (w.set p (.inr (ci, fs))) p ci k ty v Kw = Kw (w.set p (.inr (ci, fs.set k v))) := by
  rw [pf_eq (w_eq h) h1 h2 h3, List.set_set]
theorem pf_ne {ty : FieldType} {v : Value} (h0 : p ≠ q) (h : w[q]? = some (.inr (ci, fs))) (h1 : narrow ty v = v) (h2 : fits ty v = true) (h3 : Nat.blt k fs.length = true) : rz_pf (w.set p e) q ci k ty v Kw = Kw ((w.set p e).set q (.inr (ci, fs.set k v))) := pf_eq (by rw [w_ne h0, h]) h1 h2 h3
theorem pf_new {ty : FieldType} {v : Value} (h1 : narrow ty v = v) (h2 : fits ty v = true) (h3 : Nat.blt k fs.length = true) : rz_pf (w ++ [.inr (ci, fs)]) w.length ci k ty v Kw = Kw (w ++ [.inr (ci, fs.set k v)]) := by
  rw [pf_eq w_new h1 h2 h3]
  congr 1
  rw [List.set_append_right _ _ (Nat.le_refl _), Nat.sub_self]
  rfl
-- arrays of int
theorem ai_eq (h : w[p]? = some (.inl (.int, n, .inl f))) (h1 : 0 ≤ i) (h2 : i < n) (h3 : i ≤ 2147483647) : rz_ai w p (Int32.ofInt i) Ki = Ki (f i.toNat) := by
  unfold rz_ai; rw [h]; dsimp only; rw [if_neg (i_in h1 h2 h3), i_nat h1 h3]
theorem ai_ne (h : p ≠ q) {j : Int32} : rz_ai (w.set p e) q j Ki = rz_ai w q j Ki := by unfold rz_ai; rw [w_ne h]
theorem ai_self (h : p < w.length) (h1 : 0 ≤ i) (h2 : i < n) (h3 : i ≤ 2147483647) : rz_ai (w.set p (.inl (.int, n, .inl f))) p (Int32.ofInt i) Ki = Ki (f i.toNat) := ai_eq (w_eq h) h1 h2 h3
theorem ai_old (h : q < w.length) {j : Int32} : rz_ai (w ++ [e]) q j Ki = rz_ai w q j Ki := by unfold rz_ai; rw [w_old h]
theorem si_eq {x : Int32} (h : w[p]? = some (.inl (.int, n, .inl f))) (h1 : 0 ≤ i) (h2 : i < n) (h3 : i ≤ 2147483647) : rz_si w p (Int32.ofInt i) x Kw = Kw (w.set p (.inl (.int, n, .inl (upd f i.toNat x)))) := by
  unfold rz_si; rw [h]; dsimp only; rw [if_neg (i_in h1 h2 h3), i_nat h1 h3]
theorem si_self {x : Int32} (h : p < w.length) (h1 : 0 ≤ i) (h2 : i < n) (h3 : i ≤ 2147483647) : rz_si (w.set p (.inl (.int, n, .inl f))) p (Int32.ofInt i) x Kw = Kw (w.set p (.inl (.int, n, .inl (upd f i.toNat x)))) := by
  rw [si_eq (w_eq h) h1 h2 h3, List.set_set]
-- arrays of long
theorem al_eq (h : w[p]? = some (.inl (.long, n, .inr (.inl fl)))) (h1 : 0 ≤ i) (h2 : i < n) (h3 : i ≤ 2147483647) : rz_al w p (Int32.ofInt i) Kl = Kl (fl i.toNat) := by
  unfold rz_al; rw [h]; dsimp only; rw [if_neg (i_in h1 h2 h3), i_nat h1 h3]
theorem al_ne (h : p ≠ q) {j : Int32} : rz_al (w.set p e) q j Kl = rz_al w q j Kl := by unfold rz_al; rw [w_ne h]
theorem al_self (h : p < w.length) (h1 : 0 ≤ i) (h2 : i < n) (h3 : i ≤ 2147483647) : rz_al (w.set p (.inl (.long, n, .inr (.inl fl)))) p (Int32.ofInt i) Kl = Kl (fl i.toNat) := al_eq (w_eq h) h1 h2 h3
theorem al_old (h : q < w.length) {j : Int32} : rz_al (w ++ [e]) q j Kl = rz_al w q j Kl := by unfold rz_al; rw [w_old h]
theorem sl_eq {x : Int64} (h : w[p]? = some (.inl (.long, n, .inr (.inl fl)))) (h1 : 0 ≤ i) (h2 : i < n) (h3 : i ≤ 2147483647) : rz_sl w p (Int32.ofInt i) x Kw = Kw (w.set p (.inl (.long, n, .inr (.inl (vp_updL fl i.toNat x))))) := by
  unfold rz_sl; rw [h]; dsimp only; rw [if_neg (i_in h1 h2 h3), i_nat h1 h3]
theorem sl_self {x : Int64} (h : p < w.length) (h1 : 0 ≤ i) (h2 : i < n) (h3 : i ≤ 2147483647) : rz_sl (w.set p (.inl (.long, n, .inr (.inl fl)))) p (Int32.ofInt i) x Kw = Kw (w.set p (.inl (.long, n, .inr (.inl (vp_updL fl i.toNat x))))) := by
  rw [sl_eq (w_eq h) h1 h2 h3, List.set_set]
-- lengths
theorem ln_eq {ty : FieldType} {g : (Nat → Int32) ⊕ (Nat → Int64) ⊕ (Nat → UInt32) ⊕ (Nat → UInt64) ⊕ (Nat → Option Nat)} (h : w[p]? = some (.inl (ty, n, g))) : rz_ln w p Ki = Ki (Int32.ofInt n) := by
  unfold rz_ln; rw [h]
  dsimp only
  rw [Int32.ofInt_eq_ofNat]
theorem ln_ne (h : p ≠ q) : rz_ln (w.set p e) q Ki = rz_ln w q Ki := by unfold rz_ln; rw [w_ne h]
theorem ln_self {ty : FieldType} {g : (Nat → Int32) ⊕ (Nat → Int64) ⊕ (Nat → UInt32) ⊕ (Nat → UInt64) ⊕ (Nat → Option Nat)} (h : p < w.length) : rz_ln (w.set p (.inl (ty, n, g))) p Ki = Ki (Int32.ofInt n) := ln_eq (w_eq h)
theorem ln_old (h : q < w.length) : rz_ln (w ++ [e]) q Ki = rz_ln w q Ki := by unfold rz_ln; rw [w_old h]
/-- writes in another order: by the places -/
theorem w_swap {u : rz_E} (h : q < p) : (w.set p e).set q u = (w.set q u).set p e := List.set_comm _ _ (by omega)
end RZWA
