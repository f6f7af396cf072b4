/-! part 08: instructions that change cells or make them -/
theorem rz_nar {ad xd : Nat → Nat} {ty : FieldType} {v : Value} (h : narrow ty v = v) (hf : fits ty v = true) : narrow ty (rz_v ad xd v) = rz_v ad xd v ∧ fits ty (rz_v ad xd v) = true := by
  cases v with
  | ref a => cases ty <;> first | exact ⟨rfl, rfl⟩ | (cases hf; done)
  | retAddr a => cases ty <;> (cases hf; done)
  | _ => exact ⟨h, hf⟩
section RZW
variable {p : Program} {l : Launch} {e : Env} {R : Room} {s : State} {m : MethodId} {args : Array Value} {below : List Frame} {meth : Method} {c : Code} {H : Heap} {locs : List Loc} {cells slots : Nat} {Q : State → Prop} {cc : ByteArray} {pc : Nat} {ls : Array Slot} {ad xd : Nat → Nat} {dA : FieldType → ClassId} {dC : Nat → ClassId} {dI : Nat → Nat → Nat} {A : Nat → Prop} {X : rz_X} {oc : Nat} {w : rz_W}
set_option maxHeartbeats 4000000 in
theorem rz_wr_sound (hx : p.tables.exec = Jvm.exec) (hb : c.code = cc) (hts : ∀ w ∈ lw_good, w.before args s = true) (hown : s.vm.findClass (rz_own oc) = some m.cls) (hK : va_K (dC, dI) vwCl (rz_tys dA) s) (hP : va_P (dC, dI) vwCl (rz_ws ad xd dA w) H) (hD : va_D A (rz_ws ad xd dA w)) (hS : va_S A s.heap H locs) (hwf : rz_wf w)
    {isI : Bool} (hin : isI = true → meth.name = "<init>")
    {i : Instr} {len : Nat} {st r : List Value} {a : Nat} {ce : rz_E} (h : rz_wr oc isI w i st = some (r, a, ce)) (hd : decode cc pc = .ok (i, len)) (hl : rz_len i = len)
    (k : ∀ (H1 : Heap) (locs1 : List Loc), va_P (dC, dI) vwCl (rz_ws ad xd dA (w.set a ce)) H1 → va_D A (rz_ws ad xd dA (w.set a ce)) → va_S A s.heap H1 locs1 → W p l e R s m args below meth c H1 locs1 cells slots Q (F0 m (pc + len) ls (r.map (rz_v ad xd)))) : W p l e R s m args below meth c H locs cells slots Q (F0 m pc ls (st.map (rz_v ad xd))) := by
  subst hl
  unfold rz_wr at h
  split at h
  · -- putfield
    split at h
    · rename_i ci fs hw
      split at h
      · rename_i cj k0 fin ty hh hq
        split at h
        · rename_i hc
          obtain ⟨rfl, hn, hf, hkl, hfin⟩ := hc
          cases h
          obtain ⟨C, T, N, h1, h2, h3, h4, h5, h6⟩ := rz_fl_ok hq
          obtain ⟨⟨ty0, hty0⟩, hnm, hon⟩ := rz_cls h1
          obtain ⟨hn', hf'⟩ := rz_nar (ad := ad) (xd := xd) hn hf
          cases hb' : (T k0).2.2.2 with
          | false =>
            refine va_put (v := rz_v ad xd _) (ty := ty) hx hb hts (rz_uw h1) ty0 hty0 hnm hown hK hP hD hS _ (rz_ws_at hw) h1 k0 h2 (hts _ h3) (fun _ h9 => h9) hb' h5 hn' hf' (by rw [List.length_map]; exact hkl) hd (fun H1 locs1 g1 g2 g3 => ?_)
            rw [← List.map_set] at g1 g2
            refine k H1 locs1 ?_ ?_ g3
            · rw [rz_ws_set]; exact g1
            · rw [rz_ws_set]; exact g2
          | true =>
            have hi : isI = true ∧ ci = oc := by
              rcases hfin with q | q
              · rw [← h4, hb'] at q; cases q
              · exact q
            obtain ⟨hi1, rfl⟩ := hi
            have hdecl : (T k0).1 = rz_own ci := by
              rw [h6, rz_own, List.getD_eq_getElem?_getD, hon]; rfl
            refine va_putF (v := rz_v ad xd _) (ty := ty) hx hb hts (rz_uw h1) ty0 hty0 hnm hown hK hP hD hS _ (rz_ws_at hw) h1 k0 h2 (hts _ h3) (fun _ h9 => h9) hb' (hin hi1) hdecl h5 hn' hf' (by rw [List.length_map]; exact hkl) hd (fun H1 locs1 g1 g2 g3 => ?_)
            rw [← List.map_set] at g1 g2
            refine k H1 locs1 ?_ ?_ g3
            · rw [rz_ws_set]; exact g1
            · rw [rz_ws_set]; exact g2
        · cases h
      · cases h
    · cases h
  · -- iastore
    split at h
    · rename_i n f hw
      split at h
      · cases h
      · rename_i hi
        cases h
        exact va_iast hx hb hK hP hD hS _ 0 (rz_ws_at hw) rfl hi hd (fun H1 locs1 g1 g2 g3 => k H1 locs1 (by rw [rz_ws_set]; exact g1) (by rw [rz_ws_set]; exact g2) g3)
    · cases h
  · split at h
    · rename_i n f hw
      split at h
      · cases h
      · rename_i hi
        cases h
        exact va_zast hx hb hK hP hD hS _ 3 (rz_ws_at hw) rfl hi hd (fun H1 locs1 g1 g2 g3 => k H1 locs1 (by rw [rz_ws_set]; exact g1) (by rw [rz_ws_set]; exact g2) g3)
    · cases h
  · split at h
    · rename_i n f hw
      split at h
      · cases h
      · rename_i hi
        cases h
        exact va_cast hx hb hK hP hD hS _ 2 (rz_ws_at hw) rfl hi hd (fun H1 locs1 g1 g2 g3 => k H1 locs1 (by rw [rz_ws_set]; exact g1) (by rw [rz_ws_set]; exact g2) g3)
    · cases h
  · split at h
    · rename_i n f hw
      split at h
      · cases h
      · rename_i hi
        cases h
        exact va_last hx hb hK hP hD hS _ 1 (rz_ws_at hw) rfl hi hd (fun H1 locs1 g1 g2 g3 => k H1 locs1 (by rw [rz_ws_set]; exact g1) (by rw [rz_ws_set]; exact g2) g3)
    · cases h
  · -- aastore of a cell
    split at h
    · rename_i C n f ci vs hw hv
      split at h
      · cases h
      · rename_i hi
        cases h
        simp only [not_or, Decidable.not_not] at hi
        obtain ⟨hi1, hi2⟩ := hi
        have hin2 : vp_in _ n := fun q => q.elim hi1.1 hi1.2
        obtain ⟨t0, ht0⟩ := rz_tys_at (dA := dA) (hwf _ _ hw).1
        obtain ⟨⟨C', T, N⟩, hc, -⟩ := hP _ _ (rz_ws_at (ad := ad) (xd := xd) (dA := dA) hv)
        obtain ⟨-, -, hon⟩ := rz_cls hc
        have hCC : C' = C := Option.some.inj (hon.symm.trans hi2)
        subst hCC
        refine va_astq hx hb hK hP hD hS _ t0 _ ci (rz_ws_at hw) ht0 (rz_ws_at hv) hc hin2 hd (fun H1 locs1 g1 g2 g3 => ?_)
        have he : ∀ (i0 : Nat) (v0 : Nat), (va_up (fun j => (f j).map ad) i0 (some (ad v0))) = fun j => (va_up f i0 (some v0) j).map ad := fun i0 v0 => by
          funext j
          unfold va_up
          by_cases hj : j = i0
          · simp [hj]
          · simp [hj]
        rw [he] at g1 g2
        exact k H1 locs1 (by rw [rz_ws_set]; exact g1) (by rw [rz_ws_set]; exact g2) g3
    · cases h
  · split at h
    · rename_i C n f hw
      split at h
      · cases h
      · rename_i hi
        cases h
        obtain ⟨t0, ht0⟩ := rz_tys_at (dA := dA) (hwf _ _ hw).1
        refine va_astqN hx hb hK hP hD hS _ t0 (rz_ws_at hw) ht0 hi hd (fun H1 locs1 g1 g2 g3 => ?_)
        have he : ∀ (i0 : Nat), (va_up (fun j => (f j).map ad) i0 none) = fun j => (va_up f i0 none j).map ad := fun i0 => by
          funext j
          unfold va_up
          by_cases hj : j = i0
          · simp [hj]
          · simp [hj]
        rw [he] at g1 g2
        exact k H1 locs1 (by rw [rz_ws_set]; exact g1) (by rw [rz_ws_set]; exact g2) g3
    · cases h
  · cases h
/-- a new cell at the end, in the machine at q -/
theorem rz_ws_app {q : Nat} {ce : rz_E} (hwf : rz_wf w) (hce : rz_rc w.length ce) : rz_ws (va_up ad w.length q) xd dA (w ++ [ce]) = rz_ws ad xd dA w ++ [(q, rz_c ad xd dA ce)] := by
  have hval : ∀ v, rz_rv w.length v → rz_v (va_up ad w.length q) xd v = rz_v ad xd v := by
    intro v hv
    cases v with
    | ref a =>
      show Value.ref (va_up ad w.length q a) = Value.ref (ad a)
      unfold va_up
      rw [if_neg (Nat.ne_of_lt (hv a rfl))]
    | _ => rfl
  have hcell : ∀ e0, rz_rc w.length e0 → rz_c (va_up ad w.length q) xd dA e0 = rz_c ad xd dA e0 := by
    intro e0 h0
    cases e0 with
    | inl z =>
      obtain ⟨ty, n, x⟩ := z
      obtain ⟨-, h1⟩ := h0
      show Sum.inl (dA ty, rz_a _ _) = Sum.inl (dA ty, rz_a _ _)
      congr 2
      match x with
      | .inr (.inr (.inr (.inr f))) =>
        have e1 : (fun j => (f j).map (va_up ad w.length q)) = fun j => (f j).map ad := by
          funext j
          have h2 := h1 f rfl j
          cases hf : f j with
          | none => rfl
          | some b =>
            show some (va_up ad w.length q b) = some (ad b)
            unfold va_up
            rw [if_neg (Nat.ne_of_lt (h2 b hf))]
        simp only [rz_a, e1]
      | .inl f => rfl
      | .inr (.inl f) => rfl
      | .inr (.inr (.inl f)) => rfl
      | .inr (.inr (.inr (.inl f))) => rfl
    | inr z =>
      obtain ⟨ci, fs⟩ := z
      show Sum.inr (ci, fs.map _) = Sum.inr (ci, fs.map _)
      congr 2
      apply List.map_congr_left
      intro v hv
      exact hval v (h0 v hv)
  apply List.ext_getElem?
  intro i
  rw [rz_ws_get]
  have hl : (rz_ws ad xd dA w).length = w.length := by simp [rz_ws]
  by_cases hi : i < w.length
  · rw [List.getElem?_append_left hi, List.getElem?_append_left (by rw [hl]; exact hi), rz_ws_get, List.getElem?_eq_getElem hi]
    simp only [Option.map_some, Option.some.injEq, Prod.mk.injEq]
    refine ⟨?_, hcell _ (hwf i _ (List.getElem?_eq_getElem hi))⟩
    unfold va_up
    rw [if_neg (by omega)]
  · by_cases h2 : i = w.length
    · subst h2
      rw [List.getElem?_append_right (Nat.le_refl _), List.getElem?_append_right (by omega), hl, Nat.sub_self]
      simp only [List.getElem?_cons_zero, Option.map_some, Option.some.injEq, Prod.mk.injEq]
      exact ⟨by unfold va_up; rw [if_pos rfl], hcell _ hce⟩
    · rw [List.getElem?_eq_none (by simp; omega), List.getElem?_eq_none (by simp [hl]; omega)]
      rfl
def rz_nwc (oc : Nat) (q : Nat × Nat × List Value × Nat) : Bool := match vwCl[q.2.1]? with
  | some (C, _, N) => decide (q.2.2.1.length = N) && ((List.range N).all (fun j => decide ((parseFieldDescriptor ((vwCl.getD q.2.1 (RX0, TX0, 7)).2.1 j).2.2.1).map defaultValue = some (vp_V q.2.2.1 j))) && (decide (lw_tbl[q.2.2.2]? = some (.classLink (rz_own oc) q.1 C)) && (decide (Cond.instantiable C N ∈ lw_tbl) && (decide (Cond.initialized C ∈ lw_tbl) && q.2.2.1.all (fun v => match v with | .ref _ => false | _ => true)))))
  | none => false
set_option maxRecDepth 100000 in
theorem rz_nwc_all : (List.range 15).all (fun oc => (rz_nwT.getD oc []).all (rz_nwc oc)) = true := by decide +kernel
def rz_awc (oc : Nat) (q : Nat × String × Nat) : Bool := decide (q.2.1 = "Latticeyard$Grid") && decide (lw_tbl[q.2.2]? = some (.classLink (rz_own oc) q.1 "Latticeyard$Grid"))
set_option maxRecDepth 100000 in
theorem rz_awc_all : (List.range 15).all (fun oc => (rz_awT.getD oc []).all (rz_awc oc)) = true := by decide +kernel
set_option maxRecDepth 100000 in
theorem rz_arr_in : ∀ ty ∈ [FieldType.int, .long, .char, .boolean], Cond.arrayClass ty ∈ lw_tbl := by decide +kernel
/-- the array's class, as the tables have it -/
theorem rz_cA {cA : ClassId} {ty : FieldType} (hK : va_K (dC, dI) vwCl (rz_tys dA ++ [(cA, ty)]) s) (hty : ty ∈ rz_five) : cA = dA ty := by
  obtain ⟨t0, h0⟩ := rz_tys_at (dA := dA) hty
  have h1 := (hK.2 t0 (dA ty, ty) (by rw [List.getElem?_append_left (List.getElem?_eq_some_iff.mp h0).1]; exact h0)).2
  have h2 := (hK.2 (rz_tys dA).length (cA, ty) (by rw [List.getElem?_append_right (Nat.le_refl _), Nat.sub_self]; rfl)).2
  cases ty with
  | object C =>
    obtain ⟨k1, c1, a1, a2, a3, a4⟩ := h1
    obtain ⟨k2, c2, b1, b2, b3, b4⟩ := h2
    exact Option.some.inj (b4.symm.trans a4)
  | _ => exact Option.some.inj ((show s.vm.findClass _ = some cA from h2).symm.trans h1)
set_option maxHeartbeats 4000000 in
theorem rz_mk_sound (hx : p.tables.exec = Jvm.exec) (hb : c.code = cc) (hts : ∀ w ∈ lw_good, w.before args s = true) (hown : s.vm.findClass (rz_own oc) = some m.cls) (hao : va_AO "Latticeyard$Grid" s) (hK : va_K (dC, dI) vwCl (rz_tys dA) s) (hP : va_P (dC, dI) vwCl (rz_ws ad xd dA w) H) (hD : va_D A (rz_ws ad xd dA w)) (hS : va_S A s.heap H locs) (hA : ∀ q, s.heap.size ≤ q → A q) (hwf : rz_wf w)
    {i : Instr} {len n0 : Nat} {st r : List Value} {ce : rz_E} (h : rz_mk oc i st = some (ce, n0, r)) (hd : decode cc pc = .ok (i, len)) (hl : rz_len i = len) (hc1 : cells + 1 ≤ R.cells) (hc2 : slots + n0 ≤ R.slots)
    (k : rz_rc w.length ce → ∀ (q : Nat) (H1 : Heap), va_P (dC, dI) vwCl (rz_ws (va_up ad w.length q) xd dA (w ++ [ce])) H1 → va_D A (rz_ws (va_up ad w.length q) xd dA (w ++ [ce])) → va_S A s.heap H1 locs → W p l e R s m args below meth c H1 locs (cells + 1) (slots + n0) Q (F0 m (pc + len) ls (.ref q :: r.map (rz_v ad xd)))) : W p l e R s m args below meth c H locs cells slots Q (F0 m pc ls (st.map (rz_v ad xd))) := by
  subst hl
  unfold rz_mk at h
  split at h
  · split at h
    · rename_i ix ci fs hh hq
      cases h
      have h1 := rz_all15 rfl rz_nwc_all (rz_look_mem hq)
      unfold rz_nwc at h1
      dsimp only at h1
      cases hv : vwCl[ci]? with
      | none => rw [hv] at h1; cases h1
      | some z =>
        obtain ⟨C, T, N⟩ := z
        rw [hv] at h1
        simp only [Bool.and_eq_true, decide_eq_true_eq, List.all_eq_true, List.mem_range] at h1
        obtain ⟨a1, a2, a3, a4, a5, a6⟩ := h1
        obtain ⟨⟨ty0, hty0⟩, hnm, hon⟩ := rz_cls hv
        have hT : (vwCl.getD ci (RX0, TX0, 7)).2.1 = T := by rw [List.getD_eq_getElem?_getD, hv]; rfl
        rw [hT] at a2
        have hrc : rz_rc w.length (.inr (ci, fs)) := fun v hv2 a ha => by
          have := a6 v hv2
          rw [ha] at this
          cases this
        have hid : fs.map (rz_v ad xd) = fs := by
          rw [List.map_congr_left (g := id)]
          · simp
          · intro v hv2
            have := a6 v hv2
            cases v with
            | ref a => cases this
            | retAddr a =>
              exfalso
              obtain ⟨j, hj⟩ := List.getElem?_of_mem hv2
              have hjl : j < N := by rw [← a1]; exact (List.getElem?_eq_some_iff.mp hj).1
              have h3 := a2 j hjl
              rw [hty0 j hjl] at h3
              have h4 := Option.some.inj h3
              rw [vp_V, List.getD_eq_getElem?_getD, hj] at h4
              cases hty : ty0 j <;> rw [hty] at h4 <;> cases h4
            | _ => rfl
        have hin : Cond.instantiable C N ∈ lw_good := List.mem_filter.mpr ⟨a4, rfl⟩
        have hini : Cond.initialized C ∈ lw_good := List.mem_filter.mpr ⟨a5, rfl⟩
        subst a1
        refine va_new (ci := ci) (fs := fs) hx hb hts (rz_uw hv) ty0 hty0 hown (hts _ (rz_good a3 rfl)) (hts _ hin) (hts _ hini) hK hP hD hS hA hv (fun j hj => ?_) hc1 hc2 hd (fun q H1 g1 g2 g3 => ?_)
        · have h3 := a2 j hj
          rw [hty0 j hj] at h3
          exact Option.some.inj h3
        · have he := rz_ws_app (ad := ad) (xd := xd) (dA := dA) (q := q) hwf hrc
          have hc : rz_c ad xd dA (.inr (ci, fs)) = .inr (ci, fs) := by show Sum.inr (ci, fs.map _) = _; rw [hid]
          rw [hc] at he
          exact k hrc q H1 (by rw [he]; exact g1) (by rw [he]; exact g2) g3
    · cases h
  · split at h
    · rename_i t n r0 o0 ty hty
      split at h
      · cases h
      · rename_i hn
        cases h
        simp only [not_or, Nat.not_lt] at hn
        have hn1 : ¬ n < 0 := fun q => hn.1 q
        have hn2 : n.toNatClampNeg ≤ 1000000 := hn.2
        have go : ∀ (t0 : ArrayType) (ty0 : FieldType), newarray.typeOf t0 = ty0 → ty0 ∈ [FieldType.int, .long, .char, .boolean] → (∀ cA : ClassId, vp_cell cA (n.toNatClampNeg, rz_zero ty0) = arrV cA n.toNatClampNeg (fun _ => defaultValue ty0)) → rz_rc w.length (.inl (ty0, n.toNatClampNeg, rz_zero ty0)) → rz_c ad xd dA (.inl (ty0, n.toNatClampNeg, rz_zero ty0)) = .inl (dA ty0, n.toNatClampNeg, rz_zero ty0) → componentBytes ty0 ≤ 8 → ty0 ∈ rz_five → decode cc pc = .ok (.newarray t0, 2) → (rz_rc w.length (.inl (ty0, n.toNatClampNeg, rz_zero ty0)) → ∀ (q : Nat) (H1 : Heap), va_P (dC, dI) vwCl (rz_ws (va_up ad w.length q) xd dA (w ++ [.inl (ty0, n.toNatClampNeg, rz_zero ty0)])) H1 → va_D A (rz_ws (va_up ad w.length q) xd dA (w ++ [.inl (ty0, n.toNatClampNeg, rz_zero ty0)])) → va_S A s.heap H1 locs → W p l e R s m args below meth c H1 locs (cells + 1) (slots + n.toNatClampNeg) Q (F0 m (pc + 2) ls (.ref q :: r.map (rz_v ad xd)))) → W p l e R s m args below meth c H locs cells slots Q (F0 m pc ls ((.int n :: r).map (rz_v ad xd))) := by
          intro t0 ty0 e0 hin hz hrc hcc hby h5 hd0 k0
          refine va_newa (N' := n.toNatClampNeg) (a0 := (n.toNatClampNeg, rz_zero ty0)) hx hb (hts _ (List.mem_filter.mpr ⟨by rw [e0]; exact rz_arr_in ty0 hin, rfl⟩)) e0 hK hP hD hS hA hz hn1 rfl (Nat.le_trans (Nat.mul_le_mul hn2 hby) (by decide)) hc1 hc2 hd0 (fun q cA H1 gK g1 g2 g3 => ?_)
          have hcA := rz_cA gK h5
          subst hcA
          have he := rz_ws_app (ad := ad) (xd := xd) (dA := dA) (q := q) hwf hrc
          rw [hcc] at he
          exact k0 hrc q H1 (by rw [he]; exact g1) (by rw [he]; exact g2) g3
        unfold rz_prim at hty
        split at hty
        · cases hty; exact go .int .int rfl (by simp) (fun cA => rfl) ⟨by simp [rz_five], fun f hf => by cases hf⟩ rfl (by decide) (by simp [rz_five]) hd k
        · cases hty; exact go .long .long rfl (by simp) (fun cA => rfl) ⟨by simp [rz_five], fun f hf => by cases hf⟩ rfl (by decide) (by simp [rz_five]) hd k
        · cases hty; exact go .char .char rfl (by simp) (fun cA => rfl) ⟨by simp [rz_five], fun f hf => by cases hf⟩ rfl (by decide) (by simp [rz_five]) hd k
        · cases hty; exact go .boolean .boolean rfl (by simp) (fun cA => rfl) ⟨by simp [rz_five], fun f hf => by cases hf⟩ rfl (by decide) (by simp [rz_five]) hd k
        · cases hty
    · cases h
  · split at h
    · rename_i n r0 o0 C hh hq
      split at h
      · cases h
      · rename_i hn
        cases h
        simp only [not_or, Nat.not_lt] at hn
        have h1 := rz_all15 rfl rz_awc_all (rz_look_mem hq)
        simp only [rz_awc, Bool.and_eq_true, decide_eq_true_eq] at h1
        obtain ⟨rfl, h2⟩ := h1
        have hrc : rz_rc w.length (.inl (.object "Latticeyard$Grid", n.toNatClampNeg, .inr (.inr (.inr (.inr fun _ => none))))) := ⟨by simp [rz_five], fun f hf j b hb2 => by cases hf; cases hb2⟩
        refine va_newq (N' := n.toNatClampNeg) hx hb hown (hts _ (rz_good h2 rfl)) hao hK hP hD hS hA (fun q => hn.1 q) rfl (by have := hn.2; omega) hc1 hc2 hd (fun q cA H1 gK g1 g2 g3 => ?_)
        have hcA := rz_cA gK (by simp [rz_five])
        subst hcA
        have he := rz_ws_app (ad := ad) (xd := xd) (dA := dA) (q := q) hwf hrc
        exact k hrc q H1 (by rw [he]; exact g1) (by rw [he]; exact g2) g3
    · cases h
  · cases h
end RZW
