/-! part 66: level 2: coins: the fewest, by sums and by kinds -/
section RZCN
/-- m coins of the first n kinds make s -/
def zf_rep (v : Nat → Nat) (n : Nat) : Nat → Nat → Prop
  | 0, s => s = 0
  | m + 1, s => ∃ k, k < n ∧ v k ≤ s ∧ zf_rep v n m (s - v k)
/-- the least of a set, -1 of none -/
def zf_isM (P : Nat → Prop) (g : Int) : Prop := (g = -1 ∧ ∀ m, ¬ P m) ∨ ∃ m : Nat, g = m ∧ P m ∧ ∀ j, j < m → ¬ P j
theorem isM_u {P : Nat → Prop} {a b : Int} (ha : zf_isM P a) (hb : zf_isM P b) : a = b := by
  rcases ha with ⟨rfl, h1⟩ | ⟨m, rfl, h1, h2⟩
  · rcases hb with ⟨rfl, _⟩ | ⟨k, _, h3, _⟩
    · rfl
    · exact absurd h3 (h1 k)
  · rcases hb with ⟨_, h3⟩ | ⟨k, rfl, h3, h4⟩
    · exact absurd h1 (h3 m)
    · rcases Nat.lt_trichotomy m k with h | h | h
      · exact absurd h1 (h4 m h)
      · rw [h]
      · exact absurd h3 (h2 k h)
theorem isM_c {P Q : Nat → Prop} {a : Int} (h : ∀ m, P m ↔ Q m) (ha : zf_isM P a) : zf_isM Q a := by
  rcases ha with ⟨h1, h2⟩ | ⟨m, h1, h2, h3⟩
  · exact .inl ⟨h1, fun m hq => h2 m ((h m).mpr hq)⟩
  · exact .inr ⟨m, h1, (h m).mp h2, fun j hj hq => h3 j hj ((h j).mpr hq)⟩
theorem isM_b {P Q : Nat → Prop} {x y : Int} (hx : zf_isM P x) (hy : zf_isM Q y) : zf_isM (fun m => P m ∨ ∃ j, m = j + 1 ∧ Q j) (zf_bst x y) := by
  unfold zf_bst
  rcases hy with ⟨rfl, h1⟩ | ⟨k, rfl, h1, h2⟩
  · rw [if_pos (by omega)]
    refine isM_c (fun m => ⟨.inl, ?_⟩) hx
    rintro (h | ⟨j, _, h⟩)
    · exact h
    · exact absurd h (h1 j)
  · rw [if_neg (by omega)]
    rcases hx with ⟨rfl, h3⟩ | ⟨m, rfl, h3, h4⟩
    · rw [if_pos (.inl (by omega))]
      refine .inr ⟨k + 1, by omega, .inr ⟨k, rfl, h1⟩, ?_⟩
      rintro j hj (h | ⟨i, rfl, h⟩)
      · exact h3 j h
      · exact h2 i (by omega) h
    · by_cases hc : (k : Int) + 1 < m
      · rw [if_pos (.inr hc)]
        refine .inr ⟨k + 1, by omega, .inr ⟨k, rfl, h1⟩, ?_⟩
        rintro j hj (h | ⟨i, rfl, h⟩)
        · exact h4 j (by omega) h
        · exact h2 i (by omega) h
      · rw [if_neg (by omega)]
        refine .inr ⟨m, rfl, .inl h3, ?_⟩
        rintro j hj (h | ⟨i, rfl, h⟩)
        · exact h4 j hj h
        · exact h2 i (by omega) h
theorem rep_mono {v : Nat → Nat} {n : Nat} : ∀ {m s : Nat}, zf_rep v n m s → zf_rep v (n + 1) m s := by
  intro m
  induction m with
  | zero => intro s h; exact h
  | succ m ih =>
    rintro s ⟨k, h1, h2, h3⟩
    exact ⟨k, by omega, h2, ih h3⟩
theorem rep_split {v : Nat → Nat} {n : Nat} : ∀ {m s : Nat}, zf_rep v (n + 1) m s → zf_rep v n m s ∨ ∃ j, m = j + 1 ∧ v n ≤ s ∧ zf_rep v (n + 1) j (s - v n) := by
  intro m
  induction m with
  | zero => intro s h; exact .inl h
  | succ m ih =>
    rintro s ⟨k, h1, h2, h3⟩
    by_cases hk : k = n
    · subst hk
      exact .inr ⟨m, rfl, h2, h3⟩
    · rcases ih h3 with h | ⟨j, rfl, h4, h5⟩
      · exact .inl ⟨k, by omega, h2, h⟩
      · refine .inr ⟨j + 1, rfl, by omega, k, h1, by omega, ?_⟩
        have e : s - v n - v k = s - v k - v n := by omega
        rw [e]
        exact h5
theorem Gr_fuel {g : Nat → Int} {v : Nat} (hv : 1 ≤ v) : ∀ (f s : Nat), s ≤ f → zf_Gr g v f s = zf_Gr g v s s := by
  intro f
  induction f using Nat.strongRecOn with
  | ind f ih =>
    intro s hs
    cases f with
    | zero =>
      obtain rfl : s = 0 := by omega
      rfl
    | succ f =>
      cases s with
      | zero =>
        unfold zf_Gr
        rw [if_pos (by omega)]
      | succ s =>
        unfold zf_Gr
        by_cases h : s + 1 < v
        · rw [if_pos h, if_pos h]
        · rw [if_neg h, if_neg h]
          rw [ih f (by omega) (s + 1 - v) (by omega)]
          by_cases hfs : s = f
          · subst hfs
            rw [ih s (by omega) (s + 1 - v) (by omega)]
          · rw [ih s (by omega) (s + 1 - v) (by omega)]
/-- one step of a kind -/
theorem Gr_step {g : Nat → Int} {v s : Nat} (hv : 1 ≤ v) : zf_Gr g v s s = if s < v then g s else zf_bst (g s) (zf_Gr g v (s - v) (s - v)) := by
  cases s with
  | zero =>
    rw [if_pos (by omega)]
    rfl
  | succ s =>
    rw [zf_Gr]
    by_cases h : s + 1 < v
    · rw [if_pos h, if_pos h]
    · rw [if_neg h, if_neg h, Gr_fuel hv s (s + 1 - v) (by omega)]
theorem zf_G_step {v : Nat → Nat} {j s : Nat} (hv : 1 ≤ v j) : zf_G v (j + 1) s = if s < v j then zf_G v j s else zf_bst (zf_G v j s) (zf_G v (j + 1) (s - v j)) := Gr_step hv
theorem zf_G_isM {v : Nat → Nat} : ∀ (n : Nat), (∀ k, k < n → 1 ≤ v k) → ∀ s, zf_isM (fun m => zf_rep v n m s) (zf_G v n s) := by
  intro n
  induction n with
  | zero =>
    intro _ s
    unfold zf_G
    by_cases h : s = 0
    · rw [if_pos h]
      exact .inr ⟨0, rfl, h, fun j hj => by omega⟩
    · rw [if_neg h]
      refine .inl ⟨rfl, fun m hm => ?_⟩
      cases m with
      | zero => exact h hm
      | succ m =>
        obtain ⟨k, hk, _⟩ := hm
        omega
  | succ n ih =>
    intro hv s
    induction s using Nat.strongRecOn with
    | ind s ihs =>
      have hvn := hv n (by omega)
      rw [zf_G_step hvn]
      by_cases h : s < v n
      · rw [if_pos h]
        refine isM_c (fun m => ⟨rep_mono, fun hr => ?_⟩) (ih (fun k hk => hv k (by omega)) s)
        rcases rep_split hr with hr | ⟨j, _, h2, _⟩
        · exact hr
        · omega
      · rw [if_neg h]
        refine isM_c (fun m => ⟨?_, fun hr => ?_⟩) (isM_b (ih (fun k hk => hv k (by omega)) s) (ihs (s - v n) (by omega)))
        · rintro (hr | ⟨j, rfl, hr⟩)
          · exact rep_mono hr
          · exact ⟨n, by omega, by omega, hr⟩
        · rcases rep_split hr with hr | ⟨j, h1, h2, h3⟩
          · exact .inl hr
          · exact .inr ⟨j, h1, h3⟩
/-- by sums: after so many kinds -/
def zf_Rk (v : Nat → Nat) (F : Nat → Int) (s : Nat) : Nat → Int
  | 0 => -1
  | k + 1 => if v k ≤ s then zf_bst (zf_Rk v F s k) (F (s - v k)) else zf_Rk v F s k
theorem zf_Rk_G {v : Nat → Nat} {n s : Nat} (hv : ∀ k, k < n → 1 ≤ v k) (hs : 1 ≤ s) : zf_Rk v (zf_G v n) s n = zf_G v n s := by
  have key : ∀ k, k ≤ n → zf_isM (fun m => ∃ j, m = j + 1 ∧ ∃ i, i < k ∧ v i ≤ s ∧ zf_rep v n j (s - v i)) (zf_Rk v (zf_G v n) s k) := by
    intro k
    induction k with
    | zero =>
      intro _
      refine .inl ⟨rfl, ?_⟩
      rintro m ⟨j, _, i, hi, _⟩
      omega
    | succ k ih =>
      intro hk
      unfold zf_Rk
      by_cases h : v k ≤ s
      · rw [if_pos h]
        refine isM_c (fun m => ⟨?_, ?_⟩) (isM_b (ih (by omega)) (zf_G_isM n hv (s - v k)))
        · rintro (⟨j, rfl, i, h1, h2, h3⟩ | ⟨j, rfl, h1⟩)
          · exact ⟨j, rfl, i, by omega, h2, h3⟩
          · exact ⟨j, rfl, k, by omega, h, h1⟩
        · rintro ⟨j, rfl, i, h1, h2, h3⟩
          by_cases hik : i = k
          · subst hik
            exact .inr ⟨j, rfl, h3⟩
          · exact .inl ⟨j, rfl, i, by omega, h2, h3⟩
      · rw [if_neg h]
        refine isM_c (fun m => ⟨?_, ?_⟩) (ih (by omega))
        · rintro ⟨j, rfl, i, h1, h2, h3⟩
          exact ⟨j, rfl, i, by omega, h2, h3⟩
        · rintro ⟨j, rfl, i, h1, h2, h3⟩
          have : i ≠ k := fun e => h (e ▸ h2)
          exact ⟨j, rfl, i, by omega, h2, h3⟩
  refine isM_u (key n (Nat.le_refl _)) (isM_c (fun m => ⟨?_, ?_⟩) (zf_G_isM n hv s))
  · intro hr
    cases m with
    | zero =>
      have : s = 0 := hr
      omega
    | succ m =>
      obtain ⟨k, h1, h2, h3⟩ := hr
      exact ⟨m, rfl, k, h1, h2, h3⟩
  · rintro ⟨j, rfl, i, h1, h2, h3⟩
    exact ⟨i, h1, h2, h3⟩
theorem zf_G_0 {v : Nat → Nat} (n : Nat) (hv : ∀ k, k < n → 1 ≤ v k) : zf_G v n 0 = 0 := by
  induction n with
  | zero => rfl
  | succ n ih =>
    rw [zf_G_step (hv n (by omega)), if_pos (by have := hv n (by omega); omega)]
    exact ih (fun k hk => hv k (by omega))
/-- no more coins than the sum -/
theorem zf_G_b {v : Nat → Nat} {n s : Nat} (hv : ∀ k, k < n → 1 ≤ v k) : -1 ≤ zf_G v n s ∧ zf_G v n s ≤ s := by
  have hr : ∀ m s, zf_rep v n m s → m ≤ s := by
    intro m
    induction m with
    | zero => intro s _; omega
    | succ m ih =>
      rintro s ⟨k, h1, h2, h3⟩
      have := ih _ h3
      have := hv k h1
      omega
  rcases zf_G_isM n hv s with ⟨h, _⟩ | ⟨m, h, h1, _⟩
  · omega
  · have := hr m s h1
    omega
end RZCN
