/-! part 96: level 2: the first twenty steps: two ways of sorting give the same row -/
section RZST
/-- one step comes before another -/
abbrev zt_lt (a b : Int × Int) : Prop := zr_N a.1 a.2 < zr_N b.1 b.2 ∨ (zr_N a.1 a.2 = zr_N b.1 b.2 ∧ (a.1 < b.1 ∨ (a.1 = b.1 ∧ a.2 < b.2)))
theorem zt_irr {a : Int × Int} : ¬ zt_lt a a := by unfold zt_lt; omega
theorem zt_tr {a b c : Int × Int} (h1 : zt_lt a b) (h2 : zt_lt b c) : zt_lt a c := by unfold zt_lt at *; omega
theorem zt_as {a b : Int × Int} (h1 : zt_lt a b) (h2 : zt_lt b a) : False := zt_irr (zt_tr h1 h2)
theorem zt_tot {a b : Int × Int} (h1 : ¬ zt_lt a b) (h2 : ¬ zt_lt b a) : a = b := by
  unfold zt_lt at *
  apply Prod.ext <;> omega
/-- a row of steps, the last one first -/
def zt_ins (e : Int × Int) : List (Int × Int) → List (Int × Int)
  | [] => [e]
  | h :: t => if zt_lt e h then h :: zt_ins e t else e :: h :: t
def zt_add (e : Int × Int) (r : List (Int × Int)) : List (Int × Int) := if r.length < 20 then zt_ins e r else (zt_ins e r).tail
def zt_lo (e : Int × Int) : List (Int × Int) → List (Int × Int)
  | [] => []
  | h :: t => if zt_lt e h then zt_lo e t else h :: t
theorem zt_ins_len (e : Int × Int) (r : List (Int × Int)) : (zt_ins e r).length = r.length + 1 := by
  induction r with
  | nil => rfl
  | cons h t ih =>
    unfold zt_ins
    split
    · rw [List.length_cons, ih, List.length_cons]
    · rfl
theorem zt_ins_mem (e : Int × Int) (r : List (Int × Int)) : ∀ s, s ∈ zt_ins e r ↔ s = e ∨ s ∈ r := by
  induction r with
  | nil => intro s; show s ∈ [e] ↔ _; simp
  | cons h t ih =>
    intro s
    unfold zt_ins
    split
    · rw [List.mem_cons, ih, List.mem_cons]
      constructor
      · rintro (h1 | h1 | h1)
        · exact .inr (.inl h1)
        · exact .inl h1
        · exact .inr (.inr h1)
      · rintro (h1 | h1 | h1)
        · exact .inr (.inl h1)
        · exact .inl h1
        · exact .inr (.inr h1)
    · rw [List.mem_cons]
theorem zt_lo_len (e : Int × Int) (r : List (Int × Int)) : (zt_lo e r).length ≤ r.length := by
  induction r with
  | nil => exact Nat.le_refl _
  | cons h t ih =>
    unfold zt_lo
    split
    · exact Nat.le_trans ih (Nat.le_succ _)
    · exact Nat.le_refl _
theorem zt_lo_full (e : Int × Int) (r : List (Int × Int)) (h : (zt_lo e r).length = r.length) : zt_ins e r = e :: r := by
  cases r with
  | nil => rfl
  | cons a t =>
    unfold zt_lo at h
    unfold zt_ins
    by_cases c : zt_lt e a
    · rw [if_pos c] at h
      have := zt_lo_len e t
      rw [List.length_cons] at h
      omega
    · rw [if_neg c]
def zt_so (r : List (Int × Int)) : Prop := r.Pairwise fun a b => zt_lt b a
theorem zt_ins_so {e : Int × Int} {r : List (Int × Int)} (h : zt_so r) (hn : e ∉ r) : zt_so (zt_ins e r) := by
  induction r with
  | nil => exact List.pairwise_singleton _ _
  | cons a t ih =>
    obtain ⟨h1, h2⟩ := List.pairwise_cons.mp h
    unfold zt_ins
    have hne : e ≠ a := fun c => hn (c ▸ List.mem_cons_self)
    by_cases c : zt_lt e a
    · rw [if_pos c]
      refine List.pairwise_cons.mpr ⟨?_, ih h2 (fun c => hn (List.mem_cons_of_mem _ c))⟩
      intro s hs
      rcases (zt_ins_mem e t s).mp hs with rfl | h3
      · exact c
      · exact h1 s h3
    · rw [if_neg c]
      have hae : zt_lt a e := by
        by_cases c2 : zt_lt a e
        · exact c2
        · exact absurd (zt_tot c c2) hne
      refine List.pairwise_cons.mpr ⟨?_, h⟩
      intro s hs
      rcases List.mem_cons.mp hs with rfl | h3
      · exact hae
      · exact zt_tr (h1 s h3) hae
/-- the row holds the first steps of a set -/
def zt_I (C : Int × Int → Prop) (r : List (Int × Int)) : Prop := zt_so r ∧ (∀ e, e ∈ r → C e) ∧ (∀ s, C s → s ∉ r → r.length = 20 ∧ ∀ e, e ∈ r → zt_lt e s) ∧ r.length ≤ 20
theorem zt_I_add {C C' : Int × Int → Prop} {r : List (Int × Int)} {e : Int × Int} (h : zt_I C r) (hn : ¬ C e) (hC : ∀ s, C' s ↔ C s ∨ s = e) : zt_I C' (zt_add e r) ∧ (zt_add e r).length = min 20 (r.length + 1) := by
  obtain ⟨h1, h2, h3, h4⟩ := h
  have he : e ∉ r := fun c => hn (h2 e c)
  have hso := zt_ins_so h1 he
  have hlen := zt_ins_len e r
  unfold zt_add
  by_cases c : r.length < 20
  · rw [if_pos c, hlen]
    refine ⟨⟨hso, ?_, ?_, by omega⟩, by omega⟩
    · intro s hs
      rcases (zt_ins_mem e r s).mp hs with rfl | h5
      · exact (hC s).mpr (.inr rfl)
      · exact (hC s).mpr (.inl (h2 s h5))
    · intro s hs hns
      exfalso
      rcases (hC s).mp hs with h5 | h5
      · have h6 : s ∉ r := fun c => hns ((zt_ins_mem e r s).mpr (.inr c))
        have := (h3 s h5 h6).1
        omega
      · exact hns ((zt_ins_mem e r s).mpr (.inl h5))
  · rw [if_neg c]
    cases hi : zt_ins e r with
    | nil => rw [hi] at hlen; cases hlen
    | cons a t =>
      rw [hi] at hso hlen
      obtain ⟨k1, k2⟩ := List.pairwise_cons.mp hso
      rw [List.length_cons] at hlen
      have hm : ∀ s, s = a ∨ s ∈ t ↔ s = e ∨ s ∈ r := fun s => by rw [← zt_ins_mem e r s, hi, List.mem_cons]
      rw [List.tail_cons]
      refine ⟨⟨k2, ?_, ?_, by omega⟩, by omega⟩
      · intro s hs
        rcases (hm s).mp (.inr hs) with h5 | h5
        · exact (hC s).mpr (.inr h5)
        · exact (hC s).mpr (.inl (h2 s h5))
      · intro s hs hns
        refine ⟨by omega, ?_⟩
        by_cases hsa : s = a
        · rw [hsa]; exact k1
        · have h6 : s ∉ r ∧ s ≠ e := by
            constructor
            · intro c
              rcases (hm s).mpr (.inr c) with h | h
              · exact hsa h
              · exact hns h
            · intro c
              rcases (hm s).mpr (.inl c) with h | h
              · exact hsa h
              · exact hns h
          rcases (hC s).mp hs with h5 | h5
          · have h7 := (h3 s h5 h6.1).2
            intro u hu
            rcases (hm u).mp (.inr hu) with h8 | h8
            · -- u = e, below a, which is an old one
              rcases (hm a).mp (.inl rfl) with h9 | h9
              · rw [h8, ← h9] at hu
                exact absurd (k1 a hu) zt_irr
              · have := k1 u hu
                exact zt_tr this (h7 a h9)
            · exact h7 u h8
          · exact absurd h5 h6.2
theorem zt_uniq (n : Nat) : ∀ {S : Int × Int → Prop} {a b : List (Int × Int)}, a.length = n → b.length ≤ n → a.Pairwise zt_lt → b.Pairwise zt_lt → (∀ e, e ∈ a → S e) → (∀ e, e ∈ b → S e) → (∀ s, S s → s ∉ a → ∀ e, e ∈ a → zt_lt e s) → (∀ s, S s → s ∉ b → b.length = n ∧ ∀ e, e ∈ b → zt_lt e s) → a = b := by
  induction n with
  | zero =>
    intro S a b h1 h2 _ _ _ _ _ _
    have e1 : a = [] := List.length_eq_zero_iff.mp h1
    have e2 : b = [] := List.length_eq_zero_iff.mp (by omega)
    rw [e1, e2]
  | succ n ih =>
    intro S a b h1 h2 p1 p2 m1 m2 k1 k2
    cases a with
    | nil => cases h1
    | cons x t =>
      cases b with
      | nil =>
        have := (k2 x (m1 x List.mem_cons_self) (by simp)).1
        cases this
      | cons y u =>
        obtain ⟨q1, q2⟩ := List.pairwise_cons.mp p1
        obtain ⟨q3, q4⟩ := List.pairwise_cons.mp p2
        have hxy : ¬ zt_lt x y := by
          intro c
          -- x is in the set and not in b
          have hx : x ∉ y :: u := by
            intro h
            rcases List.mem_cons.mp h with h | h
            · rw [h] at c; exact zt_irr c
            · exact zt_as c (q3 x h)
          have := (k2 x (m1 x List.mem_cons_self) hx).2 y List.mem_cons_self
          exact zt_as c this
        have hyx : ¬ zt_lt y x := by
          intro c
          have hy : y ∉ x :: t := by
            intro h
            rcases List.mem_cons.mp h with h | h
            · rw [h] at c; exact zt_irr c
            · exact zt_as c (q1 y h)
          have := k1 y (m2 y List.mem_cons_self) hy x List.mem_cons_self
          exact zt_as c this
        obtain rfl := zt_tot hxy hyx
        rw [List.length_cons] at h1 h2
        rw [ih (S := fun s => S s ∧ s ≠ x) (by omega) (by omega) q2 q4 (fun e he => ⟨m1 e (List.mem_cons_of_mem _ he), fun c => by rw [c] at he; exact zt_irr (q1 x he)⟩) (fun e he => ⟨m2 e (List.mem_cons_of_mem _ he), fun c => by rw [c] at he; exact zt_irr (q3 x he)⟩) (fun s hs hn e he => k1 s hs.1 (fun c => by
          rcases List.mem_cons.mp c with c | c
          · exact hs.2 c
          · exact hn c) e (List.mem_cons_of_mem _ he)) (fun s hs hn => by
          have := k2 s hs.1 (fun c => by
            rcases List.mem_cons.mp c with c | c
            · exact hs.2 c
            · exact hn c)
          rw [List.length_cons] at this
          exact ⟨by omega, fun e he => this.2 e (List.mem_cons_of_mem _ he)⟩)]
/-- two rows of the same set are the same -/
theorem zt_same {C C' : Int × Int → Prop} {r r' : List (Int × Int)} (h : zt_I C r) (h' : zt_I C' r') (hC : ∀ s, C s ↔ C' s) (hl : r.length = 20) : r = r' := by
  obtain ⟨h1, h2, h3, h4⟩ := h
  obtain ⟨k1, k2, k3, k4⟩ := h'
  have := zt_uniq 20 (S := C) (a := r.reverse) (b := r'.reverse) (by rw [List.length_reverse, hl]) (by rw [List.length_reverse]; exact k4) (List.pairwise_reverse.mpr h1) (List.pairwise_reverse.mpr k1) (fun e he => h2 e (List.mem_reverse.mp he)) (fun e he => (hC e).mpr (k2 e (List.mem_reverse.mp he))) (fun s hs hn e he => (h3 s hs (fun c => hn (List.mem_reverse.mpr c))).2 e (List.mem_reverse.mp he)) (fun s hs hn => by
    have := k3 s ((hC s).mp hs) (fun c => hn (List.mem_reverse.mpr c))
    rw [List.length_reverse]
    exact ⟨this.1, fun e he => this.2 e (List.mem_reverse.mp he)⟩)
  exact List.reverse_inj.mp this
/-- turned so that it counts -/
abbrev zt_told (e : Int × Int) : Prop := 0 < e.1 ∨ (e.1 = 0 ∧ 0 < e.2)
def zt_n (e : Int × Int) : Int × Int := if e.1 < 0 ∨ (e.1 = 0 ∧ e.2 < 0) then (-e.1, -e.2) else e
def zt_c (x y u v i j : Int) : Int × Int := (i * x + j * u, i * y + j * v)
theorem zt_ind {x y u v i j : Int} (hD : x * v - y * u ≠ 0) (h : zt_c x y u v i j = (0, 0)) : i = 0 ∧ j = 0 := by
  unfold zt_c at h
  have h1 : i * x + j * u = 0 := congrArg Prod.fst h
  have h2 : i * y + j * v = 0 := congrArg Prod.snd h
  have e1 : i * (x * v - y * u) = 0 := by
    have : i * (x * v - y * u) = (i * x + j * u) * v - (i * y + j * v) * u := by grind
    rw [this, h1, h2]; omega
  have e2 : j * (x * v - y * u) = 0 := by
    have : j * (x * v - y * u) = (i * y + j * v) * x - (i * x + j * u) * y := by grind
    rw [this, h1, h2]; omega
  constructor
  · rcases Int.mul_eq_zero.mp e1 with h | h
    · exact h
    · exact absurd h hD
  · rcases Int.mul_eq_zero.mp e2 with h | h
    · exact h
    · exact absurd h hD
theorem zt_c_inj {x y u v i j k l : Int} (hD : x * v - y * u ≠ 0) (h : zt_c x y u v i j = zt_c x y u v k l) : i = k ∧ j = l := by
  have := zt_ind (i := i - k) (j := j - l) hD (by
    unfold zt_c at h ⊢
    have h1 : i * x + j * u = k * x + l * u := congrArg Prod.fst h
    have h2 : i * y + j * v = k * y + l * v := congrArg Prod.snd h
    apply Prod.ext
    · show (i - k) * x + (j - l) * u = 0
      rw [Int.sub_mul, Int.sub_mul]; omega
    · show (i - k) * y + (j - l) * v = 0
      rw [Int.sub_mul, Int.sub_mul]; omega)
  omega
theorem zt_c_neg {x y u v i j : Int} : zt_c x y u v (-i) (-j) = (-(zt_c x y u v i j).1, -(zt_c x y u v i j).2) := by
  unfold zt_c
  apply Prod.ext
  · show -i * x + -j * u = -(i * x + j * u)
    rw [Int.neg_mul, Int.neg_mul]; omega
  · show -i * y + -j * v = -(i * y + j * v)
    rw [Int.neg_mul, Int.neg_mul]; omega
theorem zt_n_c {x y u v i j : Int} : zt_n (zt_c x y u v i j) = zt_c x y u v i j ∨ zt_n (zt_c x y u v i j) = zt_c x y u v (-i) (-j) := by
  rw [zt_c_neg]
  unfold zt_n
  split
  · exact .inr rfl
  · exact .inl rfl
theorem zt_n_inj {x y u v i j k l : Int} (hD : x * v - y * u ≠ 0) (h : zt_n (zt_c x y u v i j) = zt_n (zt_c x y u v k l)) : (i = k ∧ j = l) ∨ (i = -k ∧ j = -l) := by
  rcases zt_n_c (x := x) (y := y) (u := u) (v := v) (i := i) (j := j) with h1 | h1 <;> rcases zt_n_c (x := x) (y := y) (u := u) (v := v) (i := k) (j := l) with h2 | h2 <;> rw [h1, h2] at h <;> have := zt_c_inj hD h <;> omega
/-- the set of all candidates -/
def zt_S (x y u v : Int) (s : Int × Int) : Prop := zt_told s ∧ ∃ i j : Int, (-24 ≤ i ∧ i ≤ 24) ∧ (-24 ≤ j ∧ j ≤ 24) ∧ s = zt_c x y u v i j
theorem zt_S_neg {x y u v : Int} (s : Int × Int) : zt_S x y (-u) (-v) s ↔ zt_S x y u v s := by
  unfold zt_S
  constructor
  · rintro ⟨h, i, j, h1, h2, h3⟩
    refine ⟨h, i, -j, h1, by omega, ?_⟩
    rw [h3]
    unfold zt_c
    rw [Int.mul_neg, Int.mul_neg, Int.neg_mul, Int.neg_mul]
  · rintro ⟨h, i, j, h1, h2, h3⟩
    refine ⟨h, i, -j, h1, by omega, ?_⟩
    rw [h3]
    unfold zt_c
    rw [Int.neg_mul_neg, Int.neg_mul_neg]
theorem zt_S_swap {x y u v : Int} (s : Int × Int) : zt_S u v x y s ↔ zt_S x y u v s := by
  unfold zt_S
  constructor
  · rintro ⟨h, i, j, h1, h2, h3⟩
    refine ⟨h, j, i, h2, h1, ?_⟩
    rw [h3]
    unfold zt_c
    rw [Int.add_comm, Int.add_comm (i * v)]
  · rintro ⟨h, i, j, h1, h2, h3⟩
    refine ⟨h, j, i, h2, h1, ?_⟩
    rw [h3]
    unfold zt_c
    rw [Int.add_comm, Int.add_comm (i * y)]
/-- the class's row, up to i, j -/
def zt_A (x y u v i j : Int) (s : Int × Int) : Prop := ∃ k l : Int, ((l = 0 ∧ 1 ≤ k ∧ k ≤ 24) ∨ (1 ≤ l ∧ l ≤ 24 ∧ -24 ≤ k ∧ k ≤ 24)) ∧ (l < j ∨ (l = j ∧ k < i)) ∧ s = zt_n (zt_c x y u v k l)
theorem zt_A_step {x y u v i j : Int} (hD : x * v - y * u ≠ 0) (hij : (j = 0 ∧ 1 ≤ i ∧ i ≤ 24) ∨ (1 ≤ j ∧ j ≤ 24 ∧ -24 ≤ i ∧ i ≤ 24)) : ¬ zt_A x y u v i j (zt_n (zt_c x y u v i j)) ∧ ∀ s, zt_A x y u v (i + 1) j s ↔ zt_A x y u v i j s ∨ s = zt_n (zt_c x y u v i j) := by
  constructor
  · rintro ⟨k, l, h1, h2, h3⟩
    rcases zt_n_inj hD h3 with h | h <;> omega
  · intro s
    constructor
    · rintro ⟨k, l, h1, h2, h3⟩
      by_cases c : l = j ∧ k = i
      · obtain ⟨rfl, rfl⟩ := c
        exact .inr h3
      · exact .inl ⟨k, l, h1, by omega, h3⟩
    · rintro (⟨k, l, h1, h2, h3⟩ | h)
      · exact ⟨k, l, h1, by omega, h3⟩
      · exact ⟨i, j, hij, by omega, h⟩
theorem zt_A_end {x y u v : Int} (hD : x * v - y * u ≠ 0) (s : Int × Int) : zt_A x y u v (-24) 25 s ↔ zt_S x y u v s := by
  constructor
  · rintro ⟨k, l, h1, h2, rfl⟩
    have hne : zt_c x y u v k l ≠ (0, 0) := fun c => by have := zt_ind hD c; omega
    refine ⟨?_, ?_⟩
    · unfold zt_n zt_told
      split
      · show 0 < -(zt_c x y u v k l).1 ∨ -(zt_c x y u v k l).1 = 0 ∧ 0 < -(zt_c x y u v k l).2
        omega
      · have : ¬ ((zt_c x y u v k l).1 = 0 ∧ (zt_c x y u v k l).2 = 0) := fun c => hne (Prod.ext c.1 c.2)
        omega
    · rcases zt_n_c (x := x) (y := y) (u := u) (v := v) (i := k) (j := l) with h | h
      · exact ⟨k, l, by omega, by omega, h⟩
      · exact ⟨-k, -l, by omega, by omega, h⟩
  · rintro ⟨ht, i, j, h1, h2, rfl⟩
    have hn : zt_n (zt_c x y u v i j) = zt_c x y u v i j := by
      unfold zt_n
      unfold zt_told at ht
      rw [if_neg (by omega)]
    have hn2 : zt_n (zt_c x y u v (-i) (-j)) = zt_c x y u v i j := by
      rw [zt_c_neg]
      unfold zt_n
      unfold zt_told at ht
      dsimp only
      rw [if_pos (by omega), Int.neg_neg, Int.neg_neg]
    have hij : ¬ (i = 0 ∧ j = 0) := by
      rintro ⟨rfl, rfl⟩
      unfold zt_told zt_c at ht
      simp at ht
    by_cases c : 0 < j ∨ (j = 0 ∧ 0 < i)
    · exact ⟨i, j, by omega, by omega, hn.symm⟩
    · exact ⟨-i, -j, by omega, by omega, hn2.symm⟩
/-- the reference's row, up to i, j -/
def zt_B (x y u v i j : Int) (s : Int × Int) : Prop := zt_told s ∧ ∃ k l : Int, (-24 ≤ k ∧ k ≤ 24) ∧ (-24 ≤ l ∧ l ≤ 24) ∧ (k < i ∨ (k = i ∧ l < j)) ∧ s = zt_c x y u v k l
theorem zt_B_step {x y u v i j : Int} (hD : x * v - y * u ≠ 0) (hi : -24 ≤ i ∧ i ≤ 24) (hj : -24 ≤ j ∧ j ≤ 24) : ¬ zt_B x y u v i j (zt_c x y u v i j) ∧ (zt_told (zt_c x y u v i j) → ∀ s, zt_B x y u v i (j + 1) s ↔ zt_B x y u v i j s ∨ s = zt_c x y u v i j) ∧ (¬ zt_told (zt_c x y u v i j) → ∀ s, zt_B x y u v i (j + 1) s ↔ zt_B x y u v i j s) := by
  refine ⟨?_, ?_, ?_⟩
  · rintro ⟨ht, k, l, h1, h2, h3, h4⟩
    have := zt_c_inj hD h4
    omega
  · intro ht s
    constructor
    · rintro ⟨h0, k, l, h1, h2, h3, h4⟩
      by_cases c : k = i ∧ l = j
      · obtain ⟨rfl, rfl⟩ := c
        exact .inr h4
      · exact .inl ⟨h0, k, l, h1, h2, by omega, h4⟩
    · rintro (⟨h0, k, l, h1, h2, h3, h4⟩ | h)
      · exact ⟨h0, k, l, h1, h2, by omega, h4⟩
      · exact ⟨h ▸ ht, i, j, hi, hj, by omega, h⟩
  · intro ht s
    constructor
    · rintro ⟨h0, k, l, h1, h2, h3, h4⟩
      by_cases c : k = i ∧ l = j
      · obtain ⟨rfl, rfl⟩ := c
        exact absurd (h4 ▸ h0) ht
      · exact ⟨h0, k, l, h1, h2, by omega, h4⟩
    · rintro ⟨h0, k, l, h1, h2, h3, h4⟩
      exact ⟨h0, k, l, h1, h2, by omega, h4⟩
theorem zt_B_end {x y u v : Int} (s : Int × Int) : zt_B x y u v 25 (-24) s ↔ zt_S x y u v s := by
  constructor
  · rintro ⟨h0, k, l, h1, h2, h3, h4⟩
    exact ⟨h0, k, l, h1, h2, h4⟩
  · rintro ⟨h0, k, l, h1, h2, h4⟩
    exact ⟨h0, k, l, h1, h2, by omega, h4⟩
theorem zt_I_iff {C C' : Int × Int → Prop} {r : List (Int × Int)} (h : zt_I C r) (hC : ∀ s, C s ↔ C' s) : zt_I C' r := by
  obtain ⟨h1, h2, h3, h4⟩ := h
  exact ⟨h1, fun e he => (hC e).mp (h2 e he), fun s hs hn => h3 s ((hC s).mpr hs) hn, h4⟩
theorem zt_I_nil {C : Int × Int → Prop} (h : ∀ s, ¬ C s) : zt_I C [] := ⟨List.Pairwise.nil, fun e he => (by cases he), fun s hs => absurd hs (h s), Nat.zero_le _⟩
/-- places hold the row, the last one first -/
def zt_rp (K : Nat → Int × Int → Prop) : List (Int × Int) → Prop
  | [] => True
  | h :: t => K t.length h ∧ zt_rp K t
theorem zt_rp_cg {K K' : Nat → Int × Int → Prop} (r : List (Int × Int)) (h : ∀ j e, j < r.length → K j e → K' j e) (hr : zt_rp K r) : zt_rp K' r := by
  induction r with
  | nil => trivial
  | cons a t ih => exact ⟨h _ _ (Nat.lt_succ_self _) hr.1, ih (fun j e hj => h j e (Nat.lt_succ_of_lt hj)) hr.2⟩
theorem zt_rp_ins {K K' : Nat → Int × Int → Prop} {e : Int × Int} (r : List (Int × Int)) (h1 : ∀ j a, j < (zt_lo e r).length → K j a → K' j a) (h2 : K' (zt_lo e r).length e) (h3 : ∀ j a, (zt_lo e r).length ≤ j → j < r.length → K j a → K' (j + 1) a) (hr : zt_rp K r) : zt_rp K' (zt_ins e r) := by
  induction r with
  | nil => exact ⟨h2, trivial⟩
  | cons a t ih =>
    have hl := zt_lo_len e t
    unfold zt_ins
    unfold zt_lo at h1 h2 h3
    by_cases c : zt_lt e a
    · rw [if_pos c] at h1 h2 h3 ⊢
      refine ⟨?_, ih h1 h2 (fun j b hj hj2 => h3 j b hj (Nat.lt_succ_of_lt hj2)) hr.2⟩
      rw [zt_ins_len]
      exact h3 _ _ hl (Nat.lt_succ_self _) hr.1
    · rw [if_neg c] at h1 h2 h3 ⊢
      exact ⟨h2, zt_rp_cg (a :: t) (fun j e hj => h1 j e hj) hr⟩
theorem zt_rp_add {K K' : Nat → Int × Int → Prop} {e : Int × Int} (r : List (Int × Int)) (hl : r.length ≤ 20) (h1 : ∀ j a, j < (zt_lo e r).length → K j a → K' j a) (h2 : (zt_lo e r).length < 20 → K' (zt_lo e r).length e) (h3 : ∀ j a, (zt_lo e r).length ≤ j → j < r.length → j + 1 < 20 → K j a → K' (j + 1) a) (hr : zt_rp K r) : zt_rp K' (zt_add e r) := by
  have hle := zt_lo_len e r
  have hlen := zt_ins_len e r
  have hi := zt_rp_ins (K := K) (K' := fun j a => j < 20 → K' j a) (e := e) r (fun j a hj hk _ => h1 j a hj hk) h2 (fun j a hj hj2 hk hj3 => h3 j a hj hj2 hj3 hk) hr
  unfold zt_add
  by_cases c : r.length < 20
  · rw [if_pos c]
    exact zt_rp_cg _ (fun j a hj hk => hk (by omega)) hi
  · rw [if_neg c]
    cases hc : zt_ins e r with
    | nil => rw [hc] at hlen; cases hlen
    | cons a t =>
      rw [hc] at hi hlen
      rw [List.length_cons] at hlen
      exact zt_rp_cg t (fun j a hj hk => hk (by omega)) hi.2
theorem zt_rp_at {K : Nat → Int × Int → Prop} (r : List (Int × Int)) (hr : zt_rp K r) : ∀ (i : Nat) (e : Int × Int), r.reverse[i]? = some e → K i e := by
  induction r with
  | nil => intro i e h; cases h
  | cons a t ih =>
    intro i e h
    rw [List.reverse_cons] at h
    rcases Nat.lt_or_ge i t.reverse.length with h1 | h1
    · rw [List.getElem?_append_left h1] at h
      exact ih hr.2 i e h
    · rw [List.getElem?_append_right h1] at h
      have h2 : i - t.reverse.length = 0 := by
        rcases Nat.eq_zero_or_pos (i - t.reverse.length) with h3 | h3
        · exact h3
        · rw [List.getElem?_eq_none (show [a].length ≤ i - t.reverse.length from h3)] at h
          cases h
      rw [h2] at h
      have h3 : a = e := by simpa using h
      have h4 : i = t.length := by rw [List.length_reverse] at h1 h2; omega
      rw [h4, ← h3]
      exact hr.1
def zt_bd (r : List (Int × Int)) : Prop := ∀ e, e ∈ r → e.1.natAbs ≤ 100000000 ∧ e.2.natAbs ≤ 100000000
theorem zt_bd_add {e : Int × Int} {r : List (Int × Int)} (h : zt_bd r) (he : e.1.natAbs ≤ 100000000 ∧ e.2.natAbs ≤ 100000000) : zt_bd (zt_add e r) := by
  have hi : ∀ s, s ∈ zt_ins e r → s.1.natAbs ≤ 100000000 ∧ s.2.natAbs ≤ 100000000 := by
    intro s hs
    rcases (zt_ins_mem e r s).mp hs with h1 | h1
    · rw [h1]; exact he
    · exact h s h1
  unfold zt_add
  split
  · exact hi
  · intro s hs
    exact hi s (List.mem_of_mem_tail hs)
theorem zt_add_full {e : Int × Int} {r : List (Int × Int)} (hl : r.length ≤ 20) (h : 20 ≤ (zt_lo e r).length) : zt_add e r = r := by
  have := zt_lo_len e r
  unfold zt_add
  rw [if_neg (by omega), zt_lo_full e r (by omega), List.tail_cons]
end RZST
