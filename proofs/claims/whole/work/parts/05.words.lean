/-! part 05: worlds of the interpreter as worlds of the machine; locals; what the tables say -/
def lw_good : List Cond := lw_tbl.filter goodWord
def rz_v (ad xd : Nat → Nat) : Value → Value
  | .ref k => .ref (ad k)
  | .retAddr e => .ref (xd e)
  | v => v
def rz_a (ad : Nat → Nat) (a : vp_A) : vp_A := (a.1, match a.2 with
  | .inr (.inr (.inr (.inr f))) => .inr (.inr (.inr (.inr fun j => (f j).map ad)))
  | x => x)
def rz_c (ad xd : Nat → Nat) (dA : FieldType → ClassId) : rz_E → va_E
  | .inl (ty, a) => .inl (dA ty, rz_a ad a)
  | .inr (ci, fs) => .inr (ci, fs.map (rz_v ad xd))
def rz_ws (ad xd : Nat → Nat) (dA : FieldType → ClassId) (w : rz_W) : va_W := w.mapIdx fun k e => (ad k, rz_c ad xd dA e)
theorem rz_ws_get {ad xd : Nat → Nat} {dA : FieldType → ClassId} {w : rz_W} {k : Nat} : (rz_ws ad xd dA w)[k]? = (w[k]?).map fun e => (ad k, rz_c ad xd dA e) := by simp [rz_ws]
theorem rz_ws_at {ad xd : Nat → Nat} {dA : FieldType → ClassId} {w : rz_W} {k : Nat} {e : rz_E} (h : w[k]? = some e) : (rz_ws ad xd dA w)[k]? = some (ad k, rz_c ad xd dA e) := by rw [rz_ws_get, h]; rfl
theorem rz_ws_set {ad xd : Nat → Nat} {dA : FieldType → ClassId} {w : rz_W} {k : Nat} {e : rz_E} : rz_ws ad xd dA (w.set k e) = (rz_ws ad xd dA w).set k (ad k, rz_c ad xd dA e) := by
  apply List.ext_getElem?
  intro i
  rw [rz_ws_get, List.getElem?_set, List.getElem?_set, rz_ws_get]
  have hl : (rz_ws ad xd dA w).length = w.length := by simp [rz_ws]
  rw [hl]
  by_cases h : k = i
  · subst h
    simp only [if_true]
    by_cases h2 : k < w.length
    · simp [h2]
    · simp [h2]
  · simp [h]
theorem rz_cat {ad xd : Nat → Nat} (v : Value) : (rz_v ad xd v).category = v.category := by cases v <;> rfl
theorem rz_cats_map {ad xd : Nat → Nat} (st : List Value) : ((st.map (rz_v ad xd)).map fun v => v.category).sum = rz_cats st := by
  unfold rz_cats
  rw [List.map_map]
  congr 1
  apply List.map_congr_left
  intro v _
  exact rz_cat v
theorem rz_at_upd (l : rz_L) (i j : Nat) (o : Option Value) : rz_at (rz_upd l i o) j = if j = i ∧ i < l.length then o else rz_at l j := by
  induction l generalizing i j with
  | nil => simp [rz_upd, rz_at]
  | cons u t ih =>
    cases i with
    | zero =>
      cases j with
      | zero => simp [rz_upd, rz_at]
      | succ j => simp [rz_upd, rz_at]
    | succ i =>
      cases j with
      | zero => simp [rz_upd, rz_at]
      | succ j =>
        simp only [rz_upd, rz_at, ih, List.length_cons, Nat.add_right_cancel_iff, Nat.add_lt_add_iff_right]
theorem rz_upd_len (l : rz_L) (i : Nat) (o : Option Value) : (rz_upd l i o).length = l.length := by
  induction l generalizing i with
  | nil => rfl
  | cons u t ih => cases i with
    | zero => rfl
    | succ i => simp [rz_upd, ih]
theorem rz_clr_len (l : rz_L) (i : Nat) : (rz_clr l i).length = l.length := by
  cases i with
  | zero => rfl
  | succ j =>
    simp only [rz_clr]
    cases rz_at l j with
    | none => rfl
    | some v => dsimp only; split <;> simp [rz_upd_len]
theorem rz_set_len (l : rz_L) (i : Nat) (v : Value) : (rz_set l i v).length = l.length := by
  unfold rz_set
  split <;> simp [rz_upd_len, rz_clr_len]
theorem rz_at_lt {l : rz_L} {j : Nat} {u : Value} (h : rz_at l j = some u) : j < l.length := by
  induction l generalizing j with
  | nil => simp [rz_at] at h
  | cons u t ih => cases j with
    | zero => simp
    | succ j => simp only [rz_at] at h; have := ih h; simp; omega
theorem rz_at_clr {l : rz_L} {i j : Nat} {u : Value} (h : rz_at (rz_clr l i) j = some u) : rz_at l j = some u ∧ (j + 1 = i → ¬ u.category = 2) := by
  cases i with
  | zero => exact ⟨h, fun e => by omega⟩
  | succ i =>
    simp only [rz_clr] at h
    cases hv : rz_at l i with
    | none =>
      rw [hv] at h
      refine ⟨h, fun e => ?_⟩
      have : j = i := by omega
      subst this
      rw [hv] at h; cases h
    | some v =>
      rw [hv] at h
      dsimp only at h
      split at h
      · rename_i hc
        rw [rz_at_upd] at h
        split at h
        · cases h
        · rename_i hn
          refine ⟨h, fun e => ?_⟩
          have hj : j = i := by omega
          subst hj
          rw [hv] at h
          exfalso
          apply hn
          exact ⟨rfl, rz_at_lt hv⟩
      · rename_i hc
        refine ⟨h, fun e => ?_⟩
        have hj : j = i := by omega
        subst hj
        rw [hv] at h
        cases h
        exact hc
/-- the listed locals -/
def rz_lp (ad xd : Nat → Nat) : Nat → rz_L → List (Nat × Value)
  | _, [] => []
  | k, some v :: t => (k, rz_v ad xd v) :: rz_lp ad xd (k + 1) t
  | k, none :: t => rz_lp ad xd (k + 1) t
theorem rz_lp_mem {ad xd : Nat → Nat} {l : rz_L} {k i : Nat} {u : Value} : (i, u) ∈ rz_lp ad xd k l ↔ ∃ j v, i = k + j ∧ rz_at l j = some v ∧ u = rz_v ad xd v := by
  induction l generalizing k with
  | nil => simp [rz_lp, rz_at]
  | cons o t ih =>
    cases o with
    | none =>
      simp only [rz_lp, ih]
      constructor
      · rintro ⟨j, v, rfl, h1, rfl⟩
        exact ⟨j + 1, v, by omega, h1, rfl⟩
      · rintro ⟨j, v, rfl, h1, rfl⟩
        cases j with
        | zero => simp [rz_at] at h1
        | succ j => exact ⟨j, v, by omega, h1, rfl⟩
    | some w =>
      simp only [rz_lp, List.mem_cons, ih]
      constructor
      · rintro (h | ⟨j, v, rfl, h1, rfl⟩)
        · cases h
          exact ⟨0, w, rfl, rfl, rfl⟩
        · exact ⟨j + 1, v, by omega, h1, rfl⟩
      · rintro ⟨j, v, rfl, h1, rfl⟩
        cases j with
        | zero => simp only [rz_at, Option.some.injEq] at h1; subst h1; exact Or.inl rfl
        | succ j => exact Or.inr ⟨j, v, by omega, h1, rfl⟩
def rz_lok (ad xd : Nat → Nat) (ls : Array Slot) (n : Nat) (l : rz_L) : Prop := l.length = n ∧ lv_has ls n (rz_lp ad xd 0 l)
theorem rz_lok.at {ad xd : Nat → Nat} {ls : Array Slot} {n : Nat} {l : rz_L} (h : rz_lok ad xd ls n l) {i : Nat} {v : Value} (hv : rz_at l i = some v) : ls[i]? = some (.val (rz_v ad xd v)) := h.2.2.2 (i, rz_v ad xd v) (rz_lp_mem.mpr ⟨i, v, by omega, hv, rfl⟩)
/-- behind a store of one unit -/
theorem rz_lok1 {ad xd : Nat → Nat} {ls : Array Slot} {n : Nat} {l : rz_L} {i : Nat} {v : Value} (hl : l.length = n) (hc : v.category = 1) (h : lv_has ls n ((i, rz_v ad xd v) :: (rz_lp ad xd 0 l).filter (fun q => !(q.1 == i) && !(q.1 + 1 == i && q.2.category == 2)))) : rz_lok ad xd ls n (rz_set l i v) := by
  refine ⟨by rw [rz_set_len]; exact hl, h.1, h.2.1, fun q hq => h.2.2 q ?_⟩
  obtain ⟨k, u⟩ := q
  obtain ⟨j, u, rfl, hu, rfl⟩ := rz_lp_mem.mp hq
  simp only [Nat.zero_add]
  have hs : rz_set l i v = rz_upd (rz_clr l i) i (some v) := by unfold rz_set; rw [if_neg (by omega)]
  rw [hs, rz_at_upd] at hu
  split at hu
  · rename_i he
    cases hu
    rw [he.1]
    exact List.mem_cons_self
  · rename_i he
    obtain ⟨h1, h2⟩ := rz_at_clr hu
    refine List.mem_cons_of_mem _ (List.mem_filter.mpr ⟨rz_lp_mem.mpr ⟨j, u, by omega, h1, rfl⟩, ?_⟩)
    have hji : ¬ j = i := by
      intro e
      subst e
      apply he
      exact ⟨rfl, by rw [rz_clr_len]; exact rz_at_lt h1⟩
    simp only [rz_cat, Bool.and_eq_true, Bool.not_eq_true', beq_eq_false_iff_ne, Bool.and_eq_false_iff]
    refine ⟨hji, ?_⟩
    by_cases e : j + 1 = i
    · exact Or.inr (by simpa using h2 e)
    · exact Or.inl e
theorem rz_lok2 {ad xd : Nat → Nat} {ls : Array Slot} {n : Nat} {l : rz_L} {i : Nat} {v : Value} (hl : l.length = n) (hc : v.category = 2) (h : lv_has ls n ((i, rz_v ad xd v) :: (rz_lp ad xd 0 l).filter (fun q => !(q.1 == i) && (!(q.1 == i + 1) && !(q.1 + 1 == i && q.2.category == 2))))) : rz_lok ad xd ls n (rz_set l i v) := by
  refine ⟨by rw [rz_set_len]; exact hl, h.1, h.2.1, fun q hq => h.2.2 q ?_⟩
  obtain ⟨k, u⟩ := q
  obtain ⟨j, u, rfl, hu, rfl⟩ := rz_lp_mem.mp hq
  simp only [Nat.zero_add]
  have hs : rz_set l i v = rz_upd (rz_upd (rz_clr l i) i (some v)) (i + 1) none := by unfold rz_set; rw [if_pos hc]
  rw [hs, rz_at_upd] at hu
  split at hu
  · cases hu
  · rename_i he0
    rw [rz_at_upd] at hu
    split at hu
    · rename_i he
      cases hu
      rw [he.1]
      exact List.mem_cons_self
    · rename_i he
      obtain ⟨h1, h2⟩ := rz_at_clr hu
      refine List.mem_cons_of_mem _ (List.mem_filter.mpr ⟨rz_lp_mem.mpr ⟨j, u, by omega, h1, rfl⟩, ?_⟩)
      have hlt := rz_at_lt h1
      have hji : ¬ j = i := by
        intro e
        subst e
        exact he ⟨rfl, by rw [rz_clr_len]; exact hlt⟩
      have hji1 : ¬ j = i + 1 := by
        intro e
        subst e
        exact he0 ⟨rfl, by rw [rz_upd_len, rz_clr_len]; exact hlt⟩
      simp only [rz_cat, Bool.and_eq_true, Bool.not_eq_true', beq_eq_false_iff_ne, Bool.and_eq_false_iff]
      refine ⟨hji, hji1, ?_⟩
      by_cases e : j + 1 = i
      · exact Or.inr (by simpa using h2 e)
      · exact Or.inl e
/-- a local forgotten -/
theorem rz_lok0 {ad xd : Nat → Nat} {ls : Array Slot} {n : Nat} {l : rz_L} {i : Nat} {u0 : Value} (hl : l.length = n) (h : lv_has ls n ((i, u0) :: (rz_lp ad xd 0 l).filter (fun q => !(q.1 == i) && !(q.1 + 1 == i && q.2.category == 2)))) : rz_lok ad xd ls n (rz_upd (rz_clr l i) i none) := by
  refine ⟨by rw [rz_upd_len, rz_clr_len]; exact hl, h.1, h.2.1, fun q hq => h.2.2 q ?_⟩
  obtain ⟨k, u⟩ := q
  obtain ⟨j, u, rfl, hu, rfl⟩ := rz_lp_mem.mp hq
  simp only [Nat.zero_add]
  rw [rz_at_upd] at hu
  split at hu
  · cases hu
  · rename_i he
    obtain ⟨h1, h2⟩ := rz_at_clr hu
    have hlt := rz_at_lt h1
    refine List.mem_cons_of_mem _ (List.mem_filter.mpr ⟨rz_lp_mem.mpr ⟨j, u, by omega, h1, rfl⟩, ?_⟩)
    have hji : ¬ j = i := by
      intro e
      subst e
      exact he ⟨rfl, by rw [rz_clr_len]; exact hlt⟩
    simp only [rz_cat, Bool.and_eq_true, Bool.not_eq_true', beq_eq_false_iff_ne, Bool.and_eq_false_iff]
    refine ⟨hji, ?_⟩
    by_cases e : j + 1 = i
    · exact Or.inr (by simpa using h2 e)
    · exact Or.inl e
