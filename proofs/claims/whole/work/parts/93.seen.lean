/-! part 93: level 2: seen points: the rows, by computation -/
section RZSE
def zs_ins (x y : Nat) : List Nat → List Nat
  | [] => [100 * x + y]
  | h :: t => bif Nat.blt (y * (h / 100)) (h % 100 * x) then h :: zs_ins x y t else (100 * x + y) :: h :: t
def zs_row (x : Nat) : Nat → Nat → List Nat → List Nat
  | 0, _, r => r
  | n + 1, y, r => zs_row x n (y + 1) (bif Nat.beq (Nat.gcd x y) 1 then zs_ins x y r else r)
def zs_tab : Nat → List Nat
  | 0 => []
  | u + 1 => zs_row (u + 1) (u + 2) 0 (zs_tab u)
def zs_chk (u : Nat) : List Nat → Nat → Nat → Nat → Nat → Bool
  | [], _, _, _, _ => true
  | h :: t, x, y, nx, ny => Nat.beq h (100 * x + y) && Nat.ble x 100 && Nat.ble y 100 && Nat.ble nx 200 && Nat.ble ny 200 && Nat.blt 0 nx && Nat.ble x ((u + x) / nx * nx) && Nat.ble y ((u + x) / nx * ny) && zs_chk u t nx ny ((u + x) / nx * nx - x) ((u + x) / nx * ny - y)
/-- all rows up to u are right -/
def zs_all : Nat → List Nat → Nat → Bool
  | 0, _, _ => true
  | n + 1, r, u => zs_chk u r.reverse 1 0 u 1 && zs_all n (zs_row (u + 1) (u + 2) 0 r) (u + 1)
set_option maxRecDepth 100000 in
theorem zs_t40 : zs_all 40 (zs_tab 1) 1 = true := by decide +kernel
theorem zs_all_get (n : Nat) : ∀ u, zs_all n (zs_tab u) u = true → ∀ k, k < n → zs_chk (u + k) (zs_tab (u + k)).reverse 1 0 (u + k) 1 = true := by
  induction n with
  | zero => intro u _ k hk; omega
  | succ n ih =>
    intro u h k hk
    have h' : (zs_chk u (zs_tab u).reverse 1 0 u 1 && zs_all n (zs_tab (u + 1)) (u + 1)) = true := h
    rw [Bool.and_eq_true] at h'
    cases k with
    | zero => exact h'.1
    | succ k =>
      have := ih (u + 1) h'.2 k (by omega)
      rw [show u + 1 + k = u + (k + 1) by omega] at this
      exact this
theorem zs_far {u : Nat} (h1 : 1 ≤ u) (h2 : u ≤ 40) : zs_chk u (zs_tab u).reverse 1 0 u 1 = true := by
  have := zs_all_get 40 1 zs_t40 (u - 1) (by omega)
  rw [show 1 + (u - 1) = u by omega] at this
  exact this
theorem zs_ins_len {x y : Nat} (r : List Nat) : (zs_ins x y r).length = r.length + 1 := by
  induction r with
  | nil => rfl
  | cons h t ih =>
    unfold zs_ins
    cases Nat.blt (y * (h / 100)) (h % 100 * x)
    · rfl
    · show (zs_ins x y t).length + 1 = _
      rw [ih]
      rfl
theorem zs_ins_mem {x y : Nat} (r : List Nat) : ∀ e, e ∈ zs_ins x y r → e = 100 * x + y ∨ e ∈ r := by
  induction r with
  | nil => intro e h; rw [show zs_ins x y [] = [100 * x + y] from rfl, List.mem_singleton] at h; exact .inl h
  | cons h t ih =>
    intro e he
    unfold zs_ins at he
    cases hb : Nat.blt (y * (h / 100)) (h % 100 * x)
    · rw [hb] at he
      have he' : e ∈ (100 * x + y) :: h :: t := he
      rcases List.mem_cons.mp he' with h1 | h1
      · exact .inl h1
      · exact .inr h1
    · rw [hb] at he
      have he' : e ∈ h :: zs_ins x y t := he
      rcases List.mem_cons.mp he' with h1 | h1
      · exact .inr (h1 ▸ List.mem_cons_self)
      · rcases ih e h1 with h2 | h2
        · exact .inl h2
        · exact .inr (List.mem_cons_of_mem _ h2)
theorem zs_row_len {x : Nat} (n : Nat) : ∀ y r, (zs_row x n y r).length ≤ r.length + n ∧ r.length ≤ (zs_row x n y r).length := by
  induction n with
  | zero => intro y r; exact ⟨Nat.le_refl _, Nat.le_refl _⟩
  | succ n ih =>
    intro y r
    have := ih (y + 1) (bif Nat.beq (Nat.gcd x y) 1 then zs_ins x y r else r)
    show (zs_row x n (y + 1) _).length ≤ _ ∧ _ ≤ (zs_row x n (y + 1) _).length
    cases hb : Nat.beq (Nat.gcd x y) 1
    · rw [hb] at this
      have this : (zs_row x n (y + 1) r).length ≤ r.length + n ∧ r.length ≤ (zs_row x n (y + 1) r).length := this
      show (zs_row x n (y + 1) r).length ≤ _ ∧ _ ≤ (zs_row x n (y + 1) r).length
      omega
    · rw [hb] at this
      have this : (zs_row x n (y + 1) (zs_ins x y r)).length ≤ (zs_ins x y r).length + n ∧ (zs_ins x y r).length ≤ (zs_row x n (y + 1) (zs_ins x y r)).length := this
      rw [zs_ins_len] at this
      show (zs_row x n (y + 1) (zs_ins x y r)).length ≤ _ ∧ _ ≤ (zs_row x n (y + 1) (zs_ins x y r)).length
      omega
theorem zs_tab_len (u : Nat) : 2 * (zs_tab u).length ≤ u * (u + 3) := by
  induction u with
  | zero => exact Nat.le_refl _
  | succ u ih =>
    have := (zs_row_len (x := u + 1) (u + 2) 0 (zs_tab u)).1
    show 2 * (zs_row (u + 1) (u + 2) 0 (zs_tab u)).length ≤ _
    have e : (u + 1) * (u + 1 + 3) = u * (u + 3) + 2 * (u + 2) := by
      rw [show u + 1 + 3 = (u + 3) + 1 by omega, Nat.add_mul, Nat.one_mul, Nat.mul_add u (u + 3) 1, Nat.mul_one]
      omega
    omega
theorem zs_tab_40 {u : Nat} (h : u ≤ 40) : (zs_tab u).length ≤ 860 := by
  have h1 := zs_tab_len u
  have h2 := Nat.mul_le_mul h (show u + 3 ≤ 43 by omega)
  omega
def zs_ok (r : List Nat) : Prop := ∀ e, e ∈ r → 1 ≤ e ∧ e ≤ 10000
theorem zs_ok_ins {x y : Nat} {r : List Nat} (h : zs_ok r) (hx : 1 ≤ x ∧ x ≤ 50) (hy : y ≤ 50) : zs_ok (zs_ins x y r) := by
  intro e he
  rcases zs_ins_mem r e he with h1 | h1
  · omega
  · exact h e h1
theorem zs_ok_row {x : Nat} (hx : 1 ≤ x ∧ x ≤ 50) (n : Nat) : ∀ y r, y + n ≤ 51 → zs_ok r → zs_ok (zs_row x n y r) := by
  induction n with
  | zero => intro y r _ h; exact h
  | succ n ih =>
    intro y r hy h
    show zs_ok (zs_row x n (y + 1) (bif Nat.beq (Nat.gcd x y) 1 then zs_ins x y r else r))
    cases hb : Nat.beq (Nat.gcd x y) 1
    · exact ih (y + 1) r (by omega) h
    · exact ih (y + 1) _ (by omega) (zs_ok_ins h hx (by omega))
theorem zs_ok_tab (u : Nat) : u ≤ 40 → zs_ok (zs_tab u) := by
  induction u with
  | zero => intro _ e he; cases he
  | succ u ih =>
    intro h
    exact zs_ok_row (by omega) (u + 2) 0 (zs_tab u) (by omega) (ih (by omega))
/-- the array holds the list, the last one first -/
def zs_rep (F : Nat → Int32) : List Nat → Prop
  | [] => True
  | h :: t => F t.length = Int32.ofInt (h : Int) ∧ zs_rep F t
theorem zs_rep_cg {F G : Nat → Int32} (r : List Nat) (h : ∀ i, i < r.length → G i = F i) (hr : zs_rep F r) : zs_rep G r := by
  induction r with
  | nil => trivial
  | cons a t ih => exact ⟨(h t.length (Nat.lt_succ_self _)).trans hr.1, ih (fun i hi => h i (Nat.lt_succ_of_lt hi)) hr.2⟩
theorem zs_rep_at {F : Nat → Int32} (r : List Nat) (hr : zs_rep F r) : ∀ (i e : Nat), r.reverse[i]? = some e → F i = Int32.ofInt (e : Int) := by
  induction r with
  | nil => intro i e h; cases h
  | cons a t ih =>
    intro i e h
    rw [List.reverse_cons] at h
    rcases Nat.lt_or_ge i t.reverse.length with h1 | h1
    · rw [List.getElem?_append_left h1] at h
      exact ih hr.2 i e h
    · rw [List.getElem?_append_right h1] at h
      have h2 : i - t.reverse.length = 0 := by
        rcases Nat.eq_zero_or_pos (i - t.reverse.length) with h3 | h3
        · exact h3
        · rw [List.getElem?_eq_none (show [a].length ≤ i - t.reverse.length from h3)] at h
          cases h
      rw [h2] at h
      have h3 : a = e := by simpa using h
      have h4 : i = t.length := by rw [List.length_reverse] at h1 h2; omega
      rw [h4, ← h3]
      exact hr.1
theorem zs_rev {r : List Nat} {i : Nat} (h : i < r.length) : ∃ e, r.reverse[i]? = some e ∧ e ∈ r := by
  have h1 : i < r.reverse.length := by rw [List.length_reverse]; exact h
  exact ⟨r.reverse[i], List.getElem?_eq_getElem h1, List.mem_reverse.mp (List.getElem_mem h1)⟩
end RZSE
