/-! part 07: instructions that look at the cells -/
def rz_five : List FieldType := [.int, .long, .char, .boolean, .object "Latticeyard$Grid"]
def rz_tys (dA : FieldType → ClassId) : List (ClassId × FieldType) := rz_five.map fun t => (dA t, t)
def rz_rv (n : Nat) (v : Value) : Prop := ∀ a, v = .ref a → a < n
def rz_rc (n : Nat) : rz_E → Prop
  | .inl (ty, a) => ty ∈ rz_five ∧ ∀ f, a.2 = .inr (.inr (.inr (.inr f))) → ∀ j b, f j = some b → b < n
  | .inr (_, fs) => ∀ v ∈ fs, rz_rv n v
def rz_wf (w : rz_W) : Prop := ∀ (k : Nat) (e : rz_E), w[k]? = some e → rz_rc w.length e
theorem rz_tys_at {dA : FieldType → ClassId} {ty : FieldType} (h : ty ∈ rz_five) : ∃ t0 : Nat, (rz_tys dA)[t0]? = some (dA ty, ty) := by
  obtain ⟨k, hk⟩ := List.getElem?_of_mem h
  exact ⟨k, by rw [rz_tys, List.getElem?_map, hk]; rfl⟩
theorem rz_look_mem {α : Type} {l : List (Nat × α)} {k : Nat} {v : α} (h : rz_look l k = some v) : (k, v) ∈ l := by
  induction l with
  | nil => cases h
  | cons q t ih =>
    simp only [rz_look] at h
    cases hq : Nat.beq q.1 k with
    | true =>
      rw [hq] at h
      have e := Nat.eq_of_beq_eq_true hq
      cases h
      rw [← e]
      exact List.mem_cons_self
    | false => rw [hq] at h; exact List.mem_cons_of_mem _ (ih h)
theorem rz_good {i : Nat} {w : Cond} (h : lw_tbl[i]? = some w) (hg : goodWord w = true) : w ∈ lw_good := List.mem_filter.mpr ⟨List.mem_of_getElem? h, hg⟩
def rz_own (oc : Nat) : String := rz_on.getD oc ""
def rz_flc (oc : Nat) (q : Nat × Nat × Nat × Bool × FieldType × Nat) : Bool := match vwCl[q.2.1]? with
  | some (C, T, N) => decide (q.2.2.1 < N) && (decide (lw_tbl[q.2.2.2.2.2]? = some (.fieldLink (rz_own oc) q.1 (T q.2.2.1).1 (T q.2.2.1).2.1 (T q.2.2.1).2.2.1)) && (decide ((T q.2.2.1).2.2.2 = q.2.2.2.1) && (decide (parseFieldDescriptor (T q.2.2.1).2.2.1 = some q.2.2.2.2.1) && decide ((T q.2.2.1).1 = C))))
  | none => false
set_option maxRecDepth 100000 in
theorem rz_flc_all : (List.range 15).all (fun oc => (rz_flT.getD oc []).all (rz_flc oc)) = true := by decide +kernel
theorem rz_all15 {α : Type} {T : List (List α)} {f : Nat → α → Bool} (hT : T.length = 15) (h : (List.range 15).all (fun oc => (T.getD oc []).all (f oc)) = true) {oc : Nat} {q : α} (hq : q ∈ T.getD oc []) : f oc q = true := by
  by_cases ho : oc < 15
  · have h1 := List.all_eq_true.mp h oc (List.mem_range.mpr ho)
    exact List.all_eq_true.mp h1 q hq
  · rw [List.getD_eq_getElem?_getD, List.getElem?_eq_none (by omega)] at hq
    cases hq
theorem rz_fl_ok {oc ix ci k h : Nat} {fin : Bool} {ty : FieldType} (hq : rz_look (rz_flT.getD oc []) ix = some (ci, k, fin, ty, h)) : ∃ (C : String) (T : u_T) (N : Nat), vwCl[ci]? = some (C, T, N) ∧ k < N ∧ Cond.fieldLink (rz_own oc) ix (T k).1 (T k).2.1 (T k).2.2.1 ∈ lw_good ∧ (T k).2.2.2 = fin ∧ parseFieldDescriptor (T k).2.2.1 = some ty ∧ (T k).1 = C := by
  have h1 := rz_all15 rfl rz_flc_all (rz_look_mem hq)
  unfold rz_flc at h1
  dsimp only at h1
  cases hv : vwCl[ci]? with
  | none => rw [hv] at h1; cases h1
  | some z =>
    obtain ⟨C, T, N⟩ := z
    rw [hv] at h1
    simp only [Bool.and_eq_true, decide_eq_true_eq] at h1
    obtain ⟨a1, a2, a3, a4, a5⟩ := h1
    exact ⟨C, T, N, rfl, a1, rz_good a2 rfl, a3, a4, a5⟩
def rz_sfn (e : Nat) : String := if e = 1 then "ACROSS" else "UP"
def rz_sfc (oc : Nat) (q : Nat × Nat × Nat) : Bool := (q.2.1 == 1 || q.2.1 == 2) && decide (lw_tbl[q.2.2]? = some (.fieldLink (rz_own oc) q.1 RX5 (rz_sfn q.2.1) "[I"))
set_option maxRecDepth 100000 in
theorem rz_sfc_all : (List.range 15).all (fun oc => (rz_sfT.getD oc []).all (rz_sfc oc)) = true := by decide +kernel
def rz_kkc (oc : Nat) (q : Nat × Value × Nat) : Bool := match q.2.1 with
  | .int x => decide (lw_tbl[q.2.2]? = some (.constant (rz_own oc) q.1 x))
  | .long x => decide (lw_tbl[q.2.2]? = some (.constantLong (rz_own oc) q.1 x))
  | _ => false
set_option maxRecDepth 100000 in
theorem rz_kkc_all : (List.range 15).all (fun oc => (rz_kkT.getD oc []).all (rz_kkc oc)) = true := by decide +kernel
set_option maxRecDepth 100000 in
theorem rz_uw_all : (vwCl.all fun q => (u_ws q.1 q.2.1 q.2.2).all fun w => decide (w ∈ lw_tbl) && goodWord w) = true := by decide +kernel
theorem rz_uw {ci : Nat} {C : String} {T : u_T} {N : Nat} (h : vwCl[ci]? = some (C, T, N)) : ∀ w ∈ u_ws C T N, w ∈ lw_good := by
  intro w hw
  have h1 := List.all_eq_true.mp rz_uw_all _ (List.mem_of_getElem? h)
  have h2 := List.all_eq_true.mp h1 w hw
  simp only [Bool.and_eq_true, decide_eq_true_eq] at h2
  exact List.mem_filter.mpr h2
set_option maxRecDepth 100000 in
theorem rz_cls {ci : Nat} {C : String} {T : u_T} {N : Nat} (h : vwCl[ci]? = some (C, T, N)) : (∃ ty : Nat → FieldType, ∀ k, k < N → parseFieldDescriptor (T k).2.2.1 = some (ty k)) ∧ (∀ a, a < N → ∀ b, b < N → a ≠ b → (T a).2.1 ≠ (T b).2.1) ∧ rz_on[ci]? = some C := by
  match ci, h with
  | 0, h => cases h; exact ⟨⟨_, tyX0_ok⟩, nmX0, rfl⟩
  | 1, h => cases h; exact ⟨⟨_, tyX1_ok⟩, nmX1, rfl⟩
  | 2, h => cases h; exact ⟨⟨_, tyX2_ok⟩, nmX2, rfl⟩
  | 3, h => cases h; exact ⟨⟨_, tyX3_ok⟩, nmX3, rfl⟩
  | 4, h => cases h; exact ⟨⟨_, tyX4_ok⟩, nmX4, rfl⟩
  | 5, h => cases h; exact ⟨⟨_, tyX5_ok⟩, nmX5, rfl⟩
  | 6, h => cases h; exact ⟨⟨_, tyX6_ok⟩, nmX6, rfl⟩
  | 7, h => cases h; exact ⟨⟨_, tyX7_ok⟩, nmX7, rfl⟩
  | 8, h => cases h; exact ⟨⟨_, tyX8_ok⟩, nmX8, rfl⟩
  | 9, h => cases h; exact ⟨⟨_, tyX9_ok⟩, nmX9, rfl⟩
  | 10, h => cases h; exact ⟨⟨_, tyX10_ok⟩, nmX10, rfl⟩
  | 11, h => cases h; exact ⟨⟨_, tyX11_ok⟩, nmX11, rfl⟩
  | n + 12, h => simp [vwCl] at h
theorem rz_rf {ad xd : Nat → Nat} (o : Option Nat) : va_rf (o.map ad) = rz_v ad xd (va_rf o) := by cases o <;> rfl
section RZR
variable {p : Program} {l : Launch} {e : Env} {R : Room} {s : State} {m : MethodId} {args : Array Value} {below : List Frame} {meth : Method} {c : Code} {H : Heap} {locs : List Loc} {cells slots : Nat} {Q : State → Prop} {cc : ByteArray} {pc : Nat} {ls : Array Slot} {ad xd : Nat → Nat} {dA : FieldType → ClassId} {dC : Nat → ClassId} {dI : Nat → Nat → Nat} {A : Nat → Prop} {X : rz_X} {oc : Nat} {w : rz_W}
/-- the arrays that nobody writes -/
def rz_Xr (X : rz_X) (xd : Nat → Nat) (A : Nat → Prop) (s : State) : Prop := (∀ (e n : Nat) (f : Nat → Int32), X e = some (n, f) → va_T .int (xd e) n (fun j => .int (f j)) A s s.heap) ∧ va_Z RX5 "ACROSS" "[I" (.ref (xd 1)) A s s.heap ∧ va_Z RX5 "UP" "[I" (.ref (xd 2)) A s s.heap
set_option maxHeartbeats 4000000 in
theorem rz_rd_sound (hx : p.tables.exec = Jvm.exec) (hb : c.code = cc) (hts : ∀ w ∈ lw_good, w.before args s = true) (hown : s.vm.findClass (rz_own oc) = some m.cls) (hK : va_K (dC, dI) vwCl (rz_tys dA) s) (hP : va_P (dC, dI) vwCl (rz_ws ad xd dA w) H) (hS : va_S A s.heap H locs) (hwf : rz_wf w) (hX : rz_Xr X xd A s)
    {i : Instr} {len : Nat} {st st' : List Value} (h : rz_rd X oc w i st = some st') (hd : decode cc pc = .ok (i, len)) (hl : rz_len i = len)
    (k : W p l e R s m args below meth c H locs cells slots Q (F0 m (pc + len) ls (st'.map (rz_v ad xd)))) : W p l e R s m args below meth c H locs cells slots Q (F0 m pc ls (st.map (rz_v ad xd))) := by
  subst hl
  unfold rz_rd at h
  split at h
  · -- getfield
    split at h
    · rename_i ci fs hw
      split at h
      · rename_i cj k0 rest hq
        obtain ⟨fin, ty, hh⟩ := rest
        split at h
        · rename_i hc
          subst hc
          split at h
          · rename_i v hv
            cases h
            obtain ⟨C, T, N, h1, h2, h3, -⟩ := rz_fl_ok hq
            refine va_get (v := rz_v ad xd v) hx hb hts (rz_uw h1) hown hK hP _ (rz_ws_at hw) h1 k0 h2 (hts _ h3) (fun _ h9 => h9) ?_ hd k
            rw [List.getElem?_map, hv]; rfl
          · cases h
        · cases h
      · cases h
    · cases h
  · -- iaload
    split at h
    · rename_i n f hw
      split at h
      · cases h
      · rename_i hi
        cases h
        exact va_iald hx hb hK hP _ 0 (rz_ws_at hw) rfl hi hd k
    · cases h
  · split at h
    · rename_i n f hw
      split at h
      · cases h
      · rename_i hi
        cases h
        exact va_ti hx hb (hX.1 _ _ _ hw) hS hi rfl hd k
    · cases h
  · split at h
    · rename_i n f hw
      split at h
      · cases h
      · rename_i hi
        cases h
        exact va_zald hx hb hK hP _ 3 (rz_ws_at hw) rfl hi hd k
    · cases h
  · split at h
    · rename_i n f hw
      split at h
      · cases h
      · rename_i hi
        cases h
        exact va_cald hx hb hK hP _ 2 (rz_ws_at hw) rfl hi hd k
    · cases h
  · split at h
    · rename_i n f hw
      split at h
      · cases h
      · rename_i hi
        cases h
        exact va_lald hx hb hK hP _ 1 (rz_ws_at hw) rfl hi hd k
    · cases h
  · split at h
    · rename_i C n f hw
      split at h
      · cases h
      · rename_i hi
        cases h
        obtain ⟨t0, ht0⟩ := rz_tys_at (dA := dA) (hwf _ _ hw).1
        refine va_aldq hx hb hK hP _ t0 (rz_ws_at hw) ht0 hi hd ?_
        rw [rz_rf (xd := xd)]
        exact k
    · cases h
  · split at h
    · rename_i ty n x hw
      cases h
      obtain ⟨t0, ht0⟩ := rz_tys_at (dA := dA) (hwf _ _ hw).1
      exact va_alen hx hb hK hP _ t0 (rz_ws_at hw) ht0 rfl hd k
    · cases h
  · split at h
    · rename_i n f hw
      cases h
      exact va_tlen hx hb (hX.1 _ _ _ hw) hS rfl hd k
    · cases h
  · split at h
    · rename_i e0 hh hq
      cases h
      have h1 := rz_all15 rfl rz_sfc_all (rz_look_mem hq)
      simp only [rz_sfc, Bool.and_eq_true, Bool.or_eq_true, beq_iff_eq, decide_eq_true_eq] at h1
      obtain ⟨he, h2⟩ := h1
      have h3 := hts _ (rz_good h2 rfl)
      rcases he with rfl | rfl
      · exact va_gets hx hb hX.2.1 hS hown h3 (fun _ h9 => h9) hd k
      · exact va_gets hx hb hX.2.2 hS hown h3 (fun _ h9 => h9) hd k
    · cases h
  · split at h
    · rename_i v hh hq
      cases h
      have h1 := rz_all15 rfl rz_kkc_all (rz_look_mem hq)
      simp only [rz_kkc, decide_eq_true_eq] at h1
      exact lv_ldc hx hb hown (hts _ (rz_good h1 rfl)) hd k
    · cases h
  · split at h
    · rename_i v hh hq
      cases h
      have h1 := rz_all15 rfl rz_kkc_all (rz_look_mem hq)
      simp only [rz_kkc, decide_eq_true_eq] at h1
      exact lv_ldcw hx hb hown (hts _ (rz_good h1 rfl)) hd k
    · cases h
  · split at h
    · rename_i v hh hq
      cases h
      have h1 := rz_all15 rfl rz_kkc_all (rz_look_mem hq)
      simp only [rz_kkc, decide_eq_true_eq] at h1
      exact lv_ldc2 hx hb hown (hts _ (rz_good h1 rfl)) hd k
    · cases h
  · cases h
end RZR
