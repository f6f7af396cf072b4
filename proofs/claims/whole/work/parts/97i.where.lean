/-! part 97i: level 2: where: a way to the right and a way up tell the same -/
section RZWH
/-- parity of how many of the first n -/
def zw_x (p : Nat → Bool) : Nat → Bool
  | 0 => false
  | n + 1 => Bool.xor (zw_x p n) (p n)
theorem zw_cong {p q : Nat → Bool} : ∀ {n : Nat}, (∀ i, i < n → p i = q i) → zw_x p n = zw_x q n := by
  intro n
  induction n with
  | zero => intro _; rfl
  | succ n ih =>
    intro h
    unfold zw_x
    rw [ih (fun i hi => h i (Nat.lt_succ_of_lt hi)), h n (Nat.lt_succ_self n)]
theorem zw_xor (p q : Nat → Bool) (n : Nat) : zw_x (fun i => Bool.xor (p i) (q i)) n = Bool.xor (zw_x p n) (zw_x q n) := by
  induction n with
  | zero => rfl
  | succ n ih =>
    unfold zw_x
    rw [ih]
    cases zw_x p n <;> cases zw_x q n <;> cases p n <;> cases q n <;> rfl
/-- round the polygon a thing and the next one's cancel out -/
theorem zw_round (f : Nat → Bool) (n : Nat) : zw_x (fun i => Bool.xor (f i) (f (zp_nx n i))) n = false := by
  have hs : ∀ m, zw_x (fun i => Bool.xor (f i) (f (i + 1))) m = Bool.xor (f 0) (f m) := by
    intro m
    induction m with
    | zero => unfold zw_x; cases f 0 <;> rfl
    | succ m ih =>
      unfold zw_x
      rw [ih]
      cases f 0 <;> cases f m <;> cases f (m + 1) <;> rfl
  cases n with
  | zero => rfl
  | succ n =>
    unfold zw_x
    have e1 : zw_x (fun i => Bool.xor (f i) (f (zp_nx (n + 1) i))) n = zw_x (fun i => Bool.xor (f i) (f (i + 1))) n := by
      refine zw_cong (fun i hi => ?_)
      have : zp_nx (n + 1) i = i + 1 := if_pos (by omega)
      rw [this]
    have e2 : zp_nx (n + 1) n = 0 := if_neg (by omega)
    rw [e1, hs, e2]
    cases f 0 <;> cases f n <;> rfl
/-- a side lies to the right of the place: its ends seen from there are p, u and q, v -/
abbrev zw_H (p u q v : Int) : Bool := decide (((0 < u) ≠ (0 < v)) ∧ ((u < v) = (0 < p * v - q * u)))
/-- a side lies above the place -/
abbrev zw_V (p u q v : Int) : Bool := decide ((p ≤ 0 ∧ 0 < q ∧ p * v - q * u < 0) ∨ (q ≤ 0 ∧ 0 < p ∧ 0 < p * v - q * u))
abbrev zw_f (p u : Int) : Bool := decide (0 < p ∧ 0 < u)
abbrev zw_on (p u q v : Int) : Prop := p * v - q * u = 0 ∧ (min p q ≤ 0 ∧ 0 ≤ max p q) ∧ (min u v ≤ 0 ∧ 0 ≤ max u v)
theorem zw_side {p u q v : Int} (hn : ¬ zw_on p u q v) : Bool.xor (zw_H p u q v) (zw_V p u q v) = Bool.xor (zw_f p u) (zw_f q v) := by
  have pp : ∀ {a b : Int}, 0 < a → 0 < b → 0 < a * b := Int.mul_pos
  have pz : ∀ {a b : Int}, 0 ≤ a → 0 ≤ b → 0 ≤ a * b := Int.mul_nonneg
  have pn : ∀ {a b : Int}, 0 ≤ a → b ≤ 0 → a * b ≤ 0 := fun h1 h2 => Int.mul_nonpos_of_nonneg_of_nonpos h1 h2
  have np : ∀ {a b : Int}, a ≤ 0 → 0 ≤ b → a * b ≤ 0 := fun h1 h2 => Int.mul_nonpos_of_nonpos_of_nonneg h1 h2
  have nn : ∀ {a b : Int}, a ≤ 0 → b ≤ 0 → 0 ≤ a * b := fun h1 h2 => Int.mul_nonneg_of_nonpos_of_nonpos h1 h2
  unfold zw_on at hn
  have hmin : ¬ (p * v - q * u = 0 ∧ ((p ≤ 0 ∨ q ≤ 0) ∧ (0 ≤ p ∨ 0 ≤ q)) ∧ ((u ≤ 0 ∨ v ≤ 0) ∧ (0 ≤ u ∨ 0 ≤ v))) := by
    rintro ⟨h1, ⟨h2, h3⟩, h4, h5⟩
    exact hn ⟨h1, ⟨by omega, by omega⟩, by omega, by omega⟩
  clear hn
  have key : ((¬ (0 < u ↔ 0 < v) ∧ (u < v ↔ 0 < p * v - q * u)) ↔ ¬ ((p ≤ 0 ∧ 0 < q ∧ p * v - q * u < 0) ∨ (q ≤ 0 ∧ 0 < p ∧ 0 < p * v - q * u))) ↔ ((0 < p ∧ 0 < u) ↔ ¬ (0 < q ∧ 0 < v)) := by
    rcases Int.lt_or_le 0 p with hp | hp <;> rcases Int.lt_or_le 0 q with hq | hq <;> rcases Int.lt_or_le 0 u with hu | hu <;> rcases Int.lt_or_le 0 v with hv | hv
    · omega
    · have h1 := pn (Int.le_of_lt hp) hv
      have h2 := pp hq hu
      omega
    · have h1 := pp hp hv
      have h2 := pn (Int.le_of_lt hq) hu
      omega
    · omega
    · have h1 := pp hp hv
      have h2 := np hq (Int.le_of_lt hu)
      omega
    · have h1 := pn (Int.le_of_lt hp) hv
      have h2 := np hq (Int.le_of_lt hu)
      omega
    · have h1 := pp hp hv
      have h2 := nn hq hu
      omega
    · have h1 := pn (Int.le_of_lt hp) hv
      have h2 := nn hq hu
      omega
    · have h1 := np hp (Int.le_of_lt hv)
      have h2 := pp hq hu
      omega
    · have h1 := nn hp hv
      have h2 := pp hq hu
      omega
    · have h1 := np hp (Int.le_of_lt hv)
      have h2 := pn (Int.le_of_lt hq) hu
      omega
    · have h1 := nn hp hv
      have h2 := pn (Int.le_of_lt hq) hu
      omega
    · omega
    · have h1 := nn hp hv
      have h2 := np hq (Int.le_of_lt hu)
      have h3 : q < 0 → q * u < 0 := fun h => Int.mul_neg_of_neg_of_pos h hu
      have h4 : q = 0 → q * u = 0 := fun h => by rw [h, Int.zero_mul]
      have h5 : v < 0 → p < 0 → 0 < p * v := fun h h' => Int.mul_pos_of_neg_of_neg h' h
      have h6 : v = 0 → p * v = 0 := fun h => by rw [h, Int.mul_zero]
      have h7 : p = 0 → p * v = 0 := fun h => by rw [h, Int.zero_mul]
      omega
    · have h1 := np hp (Int.le_of_lt hv)
      have h2 := nn hq hu
      have h3 : p < 0 → p * v < 0 := fun h => Int.mul_neg_of_neg_of_pos h hv
      have h4 : p = 0 → p * v = 0 := fun h => by rw [h, Int.zero_mul]
      have h5 : u < 0 → q < 0 → 0 < q * u := fun h h' => Int.mul_pos_of_neg_of_neg h' h
      have h6 : u = 0 → q * u = 0 := fun h => by rw [h, Int.mul_zero]
      have h7 : q = 0 → q * u = 0 := fun h => by rw [h, Int.zero_mul]
      omega
    · omega
  have conv : ∀ {A B C D : Prop} [Decidable A] [Decidable B] [Decidable C] [Decidable D], ((A ↔ ¬ B) ↔ (C ↔ ¬ D)) → Bool.xor (decide A) (decide B) = Bool.xor (decide C) (decide D) := by
    intro A B C D _ _ _ _ h
    by_cases a : A <;> by_cases b : B <;> by_cases c : C <;> by_cases e : D <;> simp [a, b, c, e] at h ⊢
  refine conv ?_
  have e1 : (((0 < u) ≠ (0 < v)) ∧ ((u < v) = (0 < p * v - q * u))) ↔ (¬ (0 < u ↔ 0 < v) ∧ (u < v ↔ 0 < p * v - q * u)) := by
    constructor
    · rintro ⟨h1, h2⟩
      exact ⟨fun c => h1 (propext c), by rw [h2]⟩
    · rintro ⟨h1, h2⟩
      exact ⟨fun c => h1 (by rw [c]), propext h2⟩
  rw [e1]
  exact key
end RZWH
