/-! part 97za15: simple polygons: an ear each time -/
section RZG15
def gm_p (x y : Nat → Int) (i : Nat) : Int × Int := (x i, y i)
theorem gm_E_get (L : List (Int × Int)) : ∀ (p : Int × Int) (i : Nat), i < L.length → (gm_E p L)[i]? = some ((p :: L).getD i (0, 0), L.getD i (0, 0)) := by
  induction L with
  | nil => intro p i h; simp at h
  | cons q L ih =>
    intro p i h
    cases i with
    | zero => rfl
    | succ i =>
      have := ih q i (by simp only [List.length_cons] at h; omega)
      show (gm_E q L)[i]? = _
      rw [this]
      rfl
theorem gm_C_idx (P : List (Int × Int)) : gm_C P = (List.range P.length).map (fun i => (P.getD i (0, 0), P.getD ((i + 1) % P.length) (0, 0))) := by
  refine List.ext_getElem? (fun i => ?_)
  rcases Nat.lt_or_ge i P.length with h | h
  · rw [List.getElem?_map, List.getElem?_range h]
    cases P with
    | nil => simp at h
    | cons p L =>
      show (gm_E p (L ++ [p]))[i]? = _
      simp only [List.length_cons] at h
      rw [gm_E_get (L ++ [p]) p i (by rw [List.length_append]; simpa using h)]
      simp only [Option.map_some, List.length_cons]
      congr 1
      refine Prod.ext ?_ ?_
      · show (p :: (L ++ [p])).getD i (0, 0) = (p :: L).getD i (0, 0)
        cases i with
        | zero => rfl
        | succ i =>
          rw [List.getD_cons_succ, List.getD_cons_succ]
          rw [List.getD_eq_getElem?_getD, List.getD_eq_getElem?_getD, List.getElem?_append_left (by omega)]
      · show (L ++ [p]).getD i (0, 0) = (p :: L).getD ((i + 1) % (L.length + 1)) (0, 0)
        rcases Nat.lt_or_ge i L.length with h1 | h1
        · rw [Nat.mod_eq_of_lt (by omega), List.getD_cons_succ, List.getD_eq_getElem?_getD, List.getD_eq_getElem?_getD, List.getElem?_append_left h1]
        · have h2 : i = L.length := by omega
          subst h2
          rw [Nat.mod_self, List.getD_cons_zero, List.getD_eq_getElem?_getD, List.getElem?_append_right (Nat.le_refl _), Nat.sub_self]
          rfl
  · rw [List.getElem?_eq_none (by rw [gm_C_len]; exact h), List.getElem?_eq_none (by rw [List.length_map, List.length_range]; exact h)]
theorem gm_nx {n i : Nat} (h : i < n) : (i + 1) % n = zp_nx n i := by
  unfold zp_nx
  split
  · exact Nat.mod_eq_of_lt ‹_›
  · have : i + 1 = n := by omega
    rw [this, Nat.mod_self]
theorem gm_C_nx (x y : Nat → Int) (n : Nat) : gm_C ((List.range n).map (gm_p x y)) = (List.range n).map (fun i => (gm_p x y i, gm_p x y (zp_nx n i))) := by
  rw [gm_C_idx, List.length_map, List.length_range]
  refine List.map_congr_left (fun i hi => ?_)
  have hi' := List.mem_range.mp hi
  have g : ∀ j, j < n → ((List.range n).map (gm_p x y)).getD j (0, 0) = gm_p x y j := by
    intro j hj
    rw [List.getD_eq_getElem?_getD, List.getElem?_map, List.getElem?_range hj]; rfl
  rw [g i hi', g _ (Nat.mod_lt _ (by omega)), gm_nx hi']
theorem gm_ok_of {x y : Nat → Int} {n : Nat} (h : zp_ok x y n) : gm_ok (gm_C ((List.range n).map (gm_p x y))) := by
  rw [gm_C_nx]
  obtain ⟨h1, h2⟩ := h
  refine ⟨?_, ?_⟩
  · intro f hf
    obtain ⟨i, hi, rfl⟩ := List.mem_map.mp hf
    intro hc
    have hc' := Prod.mk.inj hc
    exact h1 i (List.mem_range.mp hi) (Or.inl hc')
  · refine List.pairwise_map.mpr ((List.pairwise_lt_range (n := n)).imp_of_mem ?_)
    intro i j hi hj hij
    have hi' := List.mem_range.mp hi
    have hj' := List.mem_range.mp hj
    by_cases e1 : zp_nx n i = j
    · refine Or.inl ⟨by show gm_p x y (zp_nx n i) = gm_p x y j; rw [e1], ?_⟩
      intro hf
      have := h1 i hi'
      refine this (Or.inr ?_)
      rw [← e1] at hf
      exact hf
    · by_cases e2 : zp_nx n j = i
      · refine Or.inr (Or.inl ⟨by show gm_p x y (zp_nx n j) = gm_p x y i; rw [e2], ?_⟩)
        intro hf
        refine h1 j hj' (Or.inr ?_)
        rw [← e2] at hf
        exact hf
      · exact Or.inr (Or.inr (h2 i j hij hj' e1 e2))
theorem gm_sm_range (f : (Int × Int) × (Int × Int) → Int) (g : Nat → (Int × Int) × (Int × Int)) (n : Nat) : gm_sm f ((List.range n).map g) = zp_sum (fun i => f (g i)) n := by
  induction n with
  | zero => rfl
  | succ n ih =>
    rw [List.range_succ, List.map_append, gm_sm_app, ih]
    show _ + (f (g n) + 0) = _ + f (g n)
    omega
theorem gm_ar_of (x y : Nat → Int) (n : Nat) : gm_ar (gm_C ((List.range n).map (gm_p x y))) = zp_area x y n := by
  unfold gm_ar
  rw [gm_C_nx, gm_sm_range]
  rfl
theorem gm_same1 {E : List ((Int × Int) × (Int × Int))} (h : gm_ok E) {e f : (Int × Int) × (Int × Int)} (he : e ∈ E) (hf : f ∈ E) (h1 : e.1 = f.1) : e = f :=
  Classical.byContradiction (fun hne => (gm_o2_ne (h.1 e he) (h.1 f hf) (gm_pw h.2 he hf hne)).1 h1)
theorem gm_same2 {E : List ((Int × Int) × (Int × Int))} (h : gm_ok E) {e f : (Int × Int) × (Int × Int)} (he : e ∈ E) (hf : f ∈ E) (h1 : e.2 = f.2) : e = f :=
  Classical.byContradiction (fun hne => (gm_o2_ne (h.1 e he) (h.1 f hf) (gm_pw h.2 he hf hne)).2 h1)
theorem gm_getD {x y : Nat → Int} {L : List Nat} {i : Nat} (h : i < L.length) : (L.map (gm_p x y)).getD i (0, 0) = gm_p x y (L.getD i 0) := by
  rw [List.getD_eq_getElem?_getD, List.getD_eq_getElem?_getD, List.getElem?_map, List.getElem?_eq_getElem h]; rfl
theorem gm_C_L {x y : Nat → Int} {L : List Nat} {i : Nat} (h : i < L.length) : (gm_p x y (L.getD i 0), gm_p x y (L.getD ((i + 1) % L.length) 0)) ∈ gm_C (L.map (gm_p x y)) := by
  rw [gm_C_idx, List.length_map]
  refine List.mem_map.mpr ⟨i, List.mem_range.mpr h, ?_⟩
  rw [gm_getD h, gm_getD (Nat.mod_lt _ (by omega))]
theorem gm_prev {m p : Nat} (h : p < m) : ((p + m - 1) % m + 1) % m = p ∧ (p + m - 1) % m < m := by
  have hm : (p + m - 1) % m < m := Nat.mod_lt _ (by omega)
  refine ⟨?_, hm⟩
  cases p with
  | zero =>
    rw [Nat.zero_add, Nat.mod_eq_of_lt (by omega : m - 1 < m), show m - 1 + 1 = m by omega, Nat.mod_self]
  | succ p =>
    have : p + 1 + m - 1 = p + m := by omega
    rw [this, Nat.add_mod_right, Nat.mod_eq_of_lt (by omega : p < m), Nat.mod_eq_of_lt (by omega)]
/-- where a corner stands in the list: the ones beside it -/
theorem gm_beside {x y : Nat → Int} {L : List Nat} (hok : gm_ok (gm_C (L.map (gm_p x y)))) {p : Nat} (hp : p < L.length) {a c : Int × Int} (ha : (a, gm_p x y (L.getD p 0)) ∈ gm_C (L.map (gm_p x y))) (hc : (gm_p x y (L.getD p 0), c) ∈ gm_C (L.map (gm_p x y))) : a = gm_p x y (L.getD ((p + L.length - 1) % L.length) 0) ∧ c = gm_p x y (L.getD ((p + 1) % L.length) 0) := by
  have hq := gm_prev hp
  have m1 := gm_C_L (x := x) (y := y) hp
  have m2 := gm_C_L (x := x) (y := y) hq.2
  rw [hq.1] at m2
  exact ⟨(Prod.mk.inj (gm_same2 hok ha m2 rfl)).1, (Prod.mk.inj (gm_same1 hok hc m1 rfl)).2⟩
theorem gm_pwne {f : Nat → Int × Int} {L : List Nat} (h : L.Pairwise (fun a b => f a ≠ f b)) {k j : Nat} (hk : k ∈ L) (hj : j ∈ L) (hne : k ≠ j) : f k ≠ f j := by
  induction L with
  | nil => cases hk
  | cons a L ih =>
    rw [List.pairwise_cons] at h
    rcases List.mem_cons.mp hk with h1 | h1 <;> rcases List.mem_cons.mp hj with h2 | h2
    · exact absurd (h1.trans h2.symm) hne
    · rw [h1]; exact h.1 j h2
    · rw [h2]; exact (h.1 k h1).symm
    · exact ih h.2 h1 h2
theorem gm_u_s (A : Int) : (if A > 0 then (1 : Int) else -1) = gm_u A := rfl
theorem gm_ear_iff {x y : Nat → Int} {n : Nat} {L : List Nat} {p : Nat} (hp : p < L.length) : zp_ear x y n L p = true ↔ (0 < gm_u (zp_area x y n) * gm_X (gm_p x y (L.getD ((p + L.length - 1) % L.length) 0)) (gm_p x y (L.getD p 0)) (gm_p x y (L.getD ((p + 1) % L.length) 0)) ∧ ∀ k, k ∈ L → k = L.getD ((p + L.length - 1) % L.length) 0 ∨ k = L.getD p 0 ∨ k = L.getD ((p + 1) % L.length) 0 ∨ gm_u (zp_area x y n) * gm_X (gm_p x y (L.getD ((p + L.length - 1) % L.length) 0)) (gm_p x y (L.getD p 0)) (gm_p x y k) < 0 ∨ gm_u (zp_area x y n) * gm_X (gm_p x y (L.getD p 0)) (gm_p x y (L.getD ((p + 1) % L.length) 0)) (gm_p x y k) < 0 ∨ gm_u (zp_area x y n) * gm_X (gm_p x y (L.getD ((p + 1) % L.length) 0)) (gm_p x y (L.getD ((p + L.length - 1) % L.length) 0)) (gm_p x y k) < 0) := by
  unfold zp_ear
  simp only [Bool.and_eq_true, List.all_eq_true, decide_eq_true_eq, Nat.mod_eq_of_lt hp]
  exact Iff.rfl
theorem gm_um {u D : Int} (hu : u = gm_u D) (hD : D ≠ 0) : 0 < u * D := by
  rw [hu]
  rcases Int.lt_or_le 0 D with h | h
  · rw [gm_u_pos h]; omega
  · rw [gm_u_neg (by omega)]; omega
/-- in every list that is a polygon there is an ear as the class looks for it -/
theorem gm_find {x y : Nat → Int} {n : Nat} {L : List Nat} (h4 : 4 ≤ L.length) (hok : gm_ok (gm_C (L.map (gm_p x y)))) (hu : gm_u (gm_ar (gm_C (L.map (gm_p x y)))) = gm_u (zp_area x y n)) : ∃ p, p < L.length ∧ zp_ear x y n L p = true := by
  obtain ⟨hj, hen⟩ := gm_main _ (L.map (gm_p x y)) (Nat.le_refl _) (by rw [List.length_map]; omega) hok
  have m0 := gm_C_L (x := x) (y := y) (show 0 < L.length by omega)
  obtain ⟨a, e, c, R, ⟨p1, p2, p3, p4⟩, -⟩ := hen _ _ m0
  have hl := gm_len p1
  rw [List.length_map] at hl
  have hR : R ≠ [] := by intro h; rw [h] at hl; simp only [List.length_cons, List.length_nil] at hl; omega
  have hS2 := gm_ok_perm p1 hok
  have okQ := gm_cut hS2 hR p2 p3
  have hlR : 1 ≤ R.length := by
    cases R with
    | nil => exact absurd rfl hR
    | cons r R => simp only [List.length_cons]; omega
  have hEJ := (gm_EJ hS2 hR p2 p3 p4 (fun N hN => (gm_main _ _ (Nat.le_refl _) (by rw [List.length_map]; simp only [List.length_cons]; omega) (gm_ok_c hN okQ)).1)).2
  rw [← gm_ar_perm p1, hu] at hEJ
  have heP : e ∈ L.map (gm_p x y) := (gm_mem p1 e).mpr (List.mem_cons_of_mem _ List.mem_cons_self)
  obtain ⟨j, hj1, rfl⟩ := List.mem_map.mp heP
  obtain ⟨p, hp, rfl⟩ := List.getElem_of_mem hj1
  have ge : L.getD p 0 = L[p] := by rw [List.getD_eq_getElem?_getD, List.getElem?_eq_getElem hp]; rfl
  rw [← ge] at p1 p2 p3 hEJ
  obtain ⟨ea, ec⟩ := gm_beside hok hp (p1.mem_iff.mpr (by rw [gm_C3]; exact List.mem_cons_self)) (p1.mem_iff.mpr (by rw [gm_C3]; exact List.mem_cons_of_mem _ List.mem_cons_self))
  refine ⟨p, hp, ?_⟩
  rw [gm_ear_iff hp]
  subst ea ec
  refine ⟨gm_um hEJ p2, fun k hk => ?_⟩
  have hkP : gm_p x y k ∈ L.map (gm_p x y) := List.mem_map_of_mem hk
  have hN := gm_ok_nodup hok
  have inj : ∀ j, j ∈ L → gm_p x y k = gm_p x y j → k = j := by
    intro j hj he
    exact Classical.byContradiction (fun hne => by
      have := List.pairwise_map.mp hN
      exact gm_pwne this hk hj hne he)
  have hm : ∀ i, i < L.length → L.getD i 0 ∈ L := by
    intro i hi
    rw [List.getD_eq_getElem?_getD, List.getElem?_eq_getElem hi]; exact List.getElem_mem hi
  rcases List.mem_cons.mp ((gm_mem p1 _).mp hkP) with h | h
  · exact Or.inl (inj _ (hm _ (gm_prev hp).2) h)
  · rcases List.mem_cons.mp h with h | h
    · exact Or.inr (Or.inl (inj _ (hm _ hp) h))
    · rcases List.mem_cons.mp h with h | h
      · exact Or.inr (Or.inr (Or.inl (inj _ (hm _ (Nat.mod_lt _ (by omega))) h)))
      · have hnin := p3 _ h
        rw [hEJ]
        refine Or.inr (Or.inr (Or.inr ?_))
        refine Classical.byContradiction (fun hc => hnin ?_)
        generalize gm_X (gm_p x y (L.getD ((p + L.length - 1) % L.length) 0)) (gm_p x y (L.getD p 0)) (gm_p x y (L.getD ((p + 1) % L.length) 0)) = D at *
        unfold gm_in
        rcases Int.lt_or_le 0 D with h | h
        · rw [gm_u_pos h] at hc; omega
        · rw [gm_u_neg (by omega)] at hc; omega

/-- an ear that the class finds, cut off: what is left is a polygon of the same sign -/
theorem gm_next {x y : Nat → Int} {n : Nat} {L : List Nat} (h4 : 4 ≤ L.length) (hok : gm_ok (gm_C (L.map (gm_p x y)))) (hu : gm_u (gm_ar (gm_C (L.map (gm_p x y)))) = gm_u (zp_area x y n)) {p : Nat} (hp : p < L.length) (he : zp_ear x y n L p = true) : gm_ok (gm_C ((L.eraseIdx p).map (gm_p x y))) ∧ gm_u (gm_ar (gm_C ((L.eraseIdx p).map (gm_p x y)))) = gm_u (zp_area x y n) := by
  rw [gm_ear_iff hp] at he
  obtain ⟨he1, he2⟩ := he
  have ge : L.getD p 0 = L[p] := by rw [List.getD_eq_getElem?_getD, List.getElem?_eq_getElem hp]; rfl
  have hsp : L = L.take p ++ L[p] :: L.drop (p + 1) := by rw [List.getElem_cons_drop, List.take_append_drop]
  have hL1 : L.map (gm_p x y) = (L.take p).map (gm_p x y) ++ gm_p x y (L.getD p 0) :: (L.drop (p + 1)).map (gm_p x y) := by
    rw [ge, ← List.map_cons (f := gm_p x y), ← List.map_append, ← hsp]
  have hL2 : (L.eraseIdx p).map (gm_p x y) = (L.take p).map (gm_p x y) ++ (L.drop (p + 1)).map (gm_p x y) := by
    rw [List.eraseIdx_eq_take_drop_succ, List.map_append]
  have hlen : ((L.take p).map (gm_p x y)).length + ((L.drop (p + 1)).map (gm_p x y)).length + 1 = L.length := by
    rw [List.length_map, List.length_map, List.length_take, List.length_drop]; omega
  rw [hL2]
  generalize (L.take p).map (gm_p x y) = A at *
  generalize (L.drop (p + 1)).map (gm_p x y) = B at *
  have r1 : (gm_C (L.map (gm_p x y))).Perm (gm_C (gm_p x y (L.getD p 0) :: (B ++ A))) := by rw [hL1]; exact gm_C_rot A (_ :: B)
  have r2 : (gm_C (A ++ B)).Perm (gm_C (B ++ A)) := gm_C_rot A B
  have hl : (B ++ A).length + 1 = L.length := by rw [List.length_append]; omega
  generalize B ++ A = T at r1 r2 hl
  cases T with
  | nil => simp only [List.length_nil] at hl; omega
  | cons c T =>
    rcases List.eq_nil_or_concat T with hT | ⟨R, a, hT⟩
    · rw [hT] at hl; simp only [List.length_cons, List.length_nil] at hl; omega
    · have hT' : T = R ++ [a] := by rw [hT, List.concat_eq_append]
      subst hT'
      have r3 : (gm_C (L.map (gm_p x y))).Perm (gm_C (a :: gm_p x y (L.getD p 0) :: c :: R)) := r1.trans (gm_C_rot (gm_p x y (L.getD p 0) :: c :: R) [a])
      have r4 : (gm_C (A ++ B)).Perm (gm_C (a :: c :: R)) := r2.trans (gm_C_rot (c :: R) [a])
      have hS2 := gm_ok_perm r3 hok
      have hR : R ≠ [] := by intro h; rw [h] at hl; simp only [List.length_cons, List.length_append, List.length_nil] at hl; omega
      obtain ⟨ea, ec⟩ := gm_beside hok hp (r3.mem_iff.mpr (by rw [gm_C3]; exact List.mem_cons_self)) (r3.mem_iff.mpr (by rw [gm_C3]; exact List.mem_cons_of_mem _ List.mem_cons_self))
      rw [← ea, ← ec] at he1
      have hD : gm_X a (gm_p x y (L.getD p 0)) c ≠ 0 := by intro h; rw [h, Int.mul_zero] at he1; omega
      have huD : gm_u (zp_area x y n) = gm_u (gm_X a (gm_p x y (L.getD p 0)) c) := by
        rcases Int.lt_or_le 0 (zp_area x y n) with h1 | h1
        · rw [gm_u_pos h1] at he1 ⊢; rw [gm_u_pos (by omega)]
        · rw [gm_u_neg (by omega)] at he1 ⊢; rw [gm_u_neg (by omega)]
      have hN := gm_ok_nodup hS2
      rw [List.nodup_cons, List.nodup_cons, List.nodup_cons] at hN
      have hE : ∀ k, k ∈ R → ¬ gm_in a (gm_p x y (L.getD p 0)) c k := by
        intro k hk hin
        have hkP : k ∈ L.map (gm_p x y) := (gm_mem r3 k).mpr (List.mem_cons_of_mem _ (List.mem_cons_of_mem _ (List.mem_cons_of_mem _ hk)))
        obtain ⟨j, hj, rfl⟩ := List.mem_map.mp hkP
        obtain ⟨u1, u2, u3, -⟩ := gm_in_h hD hin
        rw [← huD] at u1 u2 u3
        rcases he2 j hj with h | h | h | h
        · rw [h, ← ea] at hk
          exact hN.1 (List.mem_cons_of_mem _ (List.mem_cons_of_mem _ hk))
        · rw [h] at hk
          exact hN.2.1 (List.mem_cons_of_mem _ hk)
        · rw [h, ← ec] at hk
          exact hN.2.2.1 hk
        · rw [← ea, ← ec] at h
          omega
      have hw := gm_w0 hS2 hR hD hE (by rw [← gm_ar_perm r3, hu, huD])
      have okQ := gm_cut hS2 hR hD hE
      have hlR : 1 ≤ R.length := by
        cases R with
        | nil => exact absurd rfl hR
        | cons r R => simp only [List.length_cons]; omega
      have hsg := gm_sign hS2 hR hD hE hw (fun N hN => (gm_main _ _ (Nat.le_refl _) (by rw [List.length_map]; simp only [List.length_cons]; omega) (gm_ok_c hN okQ)).1)
      exact ⟨gm_ok_perm r4.symm okQ, by rw [gm_ar_perm r4, hsg, huD]⟩
theorem gm_cuts {x y : Nat → Int} {n : Nat} (f : Nat) : ∀ L : List Nat, L.length = f + 3 → gm_ok (gm_C (L.map (gm_p x y))) → gm_u (gm_ar (gm_C (L.map (gm_p x y)))) = gm_u (zp_area x y n) → (zp_cuts x y n f L).length = f + 1 := by
  induction f with
  | zero => intro L _ _ _; rfl
  | succ f ih =>
    intro L hl hok hu
    unfold zp_cuts
    obtain ⟨p, hp, he⟩ := gm_find (n := n) (by omega) hok hu
    cases hf : (List.range L.length).find? (zp_ear x y n L) with
    | none =>
      exact absurd he (List.find?_eq_none.mp hf p (List.mem_range.mpr hp))
    | some q =>
      have hq := List.find?_some hf
      have hq2 := List.mem_range.mp (List.mem_of_find?_eq_some hf)
      obtain ⟨g1, g2⟩ := gm_next (by omega) hok hu hq2 hq
      show (zp_cuts x y n f (L.eraseIdx q)).length + 1 = _
      rw [ih _ (by rw [List.length_eraseIdx_of_lt hq2]; omega) g1 g2]
/-- there is an ear each time -/
theorem gm_tri (x y : Nat → Int) (n : Nat) (h3 : 3 ≤ n) (hok : zp_ok x y n) : (zp_tri x y n).length = n - 2 := by
  unfold zp_tri
  rw [gm_cuts (n - 3) (List.range n) (by rw [List.length_range]; omega) (gm_ok_of hok) (by rw [gm_ar_of])]
  omega
end RZG15
