/-! part 14: a call's run, and what goes on behind it -/
theorem rz_hw_nil {M : rz_M} (h : M.2.2.2.2.2.2.2.2 = []) : rz_hw M = .code M.1 M.2.1 M.2.2.1 M.2.2.2.1 := by
  obtain ⟨y, b, ml, rt, oc, code, tx, hd, hh⟩ := M
  dsimp only at h
  subst h
  rfl
theorem rz_hw_cons {M : rz_M} (h : M.2.2.2.2.2.2.2.2 ≠ []) : rz_hw M = .codeWith M.1 M.2.1 M.2.2.1 M.2.2.2.1 M.2.2.2.2.2.2.2.2 := by
  obtain ⟨y, b, ml, rt, oc, code, tx, hd, hh⟩ := M
  cases hh with
  | nil => exact absurd rfl h
  | cons a t => rfl
theorem rz_pay {args : Array Value} {s : State} {M : rz_M} (hts : ∀ w ∈ lw_good, w.before args s = true) (hm : rz_hw M ∈ lw_good) : ∀ w ∈ rz_hw M :: lw_good, ∀ (a' : Array Value) (U : State), s.WarmedH U.vm → w.before a' U = true := fun w hw a' U hW => by
  have hw' : w ∈ lw_good := by
    rcases List.mem_cons.mp hw with e | e
    · rw [e]; exact hm
    · exact e
  exact word_at hW (good_of_word (List.mem_filter.mp hw').2) (hts w hw')
theorem rz_parn {y : MethodName} {n : Nat} (h : rz_par y = some n) : ∀ sig, parseMethodDescriptor y.desc = some sig → n = sig.parameters.length := fun sig hs => by
  unfold rz_par at h
  rw [hs] at h
  exact (Option.some.inj h).symm
theorem rz_ca0 {i : Instr} {q : Nat × Nat} (h : rz_ca i = some q) (h0 : q.1 = 0) : i = .invokestatic q.2 := by
  unfold rz_ca at h
  split at h <;> cases h <;> first | rfl | cases h0
theorem rz_ca1 {i : Instr} {q : Nat × Nat} (h : rz_ca i = some q) (h0 : q.1 = 1) : i = .invokevirtual q.2 := by
  unfold rz_ca at h
  split at h <;> cases h <;> first | rfl | cases h0
theorem rz_ca2 {i : Instr} {q : Nat × Nat} (h : rz_ca i = some q) (h0 : q.1 = 2) : i = .invokespecial q.2 := by
  unfold rz_ca at h
  split at h <;> cases h <;> first | rfl | cases h0
theorem rz_calen {i : Instr} {q : Nat × Nat} (h : rz_ca i = some q) : rz_len i = 3 := by
  unfold rz_ca at h
  split at h <;> cases h <;> rfl
section RZK
variable {p : Program} {l : Launch} {e : Env} {R : Room} {s : State} {m : MethodId} {args : Array Value} {below : List Frame} {meth : Method} {c : Code} {H : Heap} {locs : List Loc} {cells slots : Nat} {Q : State → Prop} {cc : ByteArray} {pc nL : Nat} {ls : Array Slot} {ad xd : Nat → Nat} {dA : FieldType → ClassId} {dC : Nat → ClassId} {dI : Nat → Nat → Nat} {A : Nat → Prop} {X : rz_X} {oc : Nat} {w : rz_W}
theorem rz_free (hD : va_D A (rz_ws ad xd dA w)) (hS : va_S A s.heap H locs) (hA : ∀ q, s.heap.size ≤ q → A q) : ∀ q, va_A (rz_ws ad xd dA w) H.size q → A q := by
  intro q hq
  rcases hq with ⟨k, e0, hk⟩ | hq
  · exact hD.2 k (q, e0) hk
  · exact hA q (Nat.le_trans hS.1 hq)
theorem rz_callB {M : rz_M} {d nc ns n ix : Nat} (hts : ∀ w ∈ lw_good, w.before args s = true) (hm : rz_mf M) (hn : rz_par M.1 = some n) (hh : M.2.2.2.2.2.2.2.2 = []) (hl : Cond.methodLink (rz_own oc) ix M.1 ∈ lw_good) (hRf : d + 9 ≤ R.frames) (hRl : 64 * d + 264 ≤ R.locals) :
    CallB R s args (rz_own oc) ix M.1 M.2.1 M.2.2.1 M.2.2.2.1 (rz_hw M :: lw_good) (rz_rm d nc ns) nc ns n := by
  obtain ⟨h1, h2, h3, h4, h5, h6, h7⟩ := hm
  refine ⟨rfl, rfl, ?_, ?_, rz_pay hts h2, ?_, ?_, hts _ h1, h3, rz_parn hn, hts _ hl⟩
  · show d + 8 + 1 ≤ R.frames; omega
  · show 8 + (M.2.2.1 + 11) + (64 * d + 200) ≤ R.locals; omega
  · rw [rz_hw_nil hh]; exact List.mem_cons_self
  · rw [← rz_hw_nil hh]; exact hts _ h2
theorem rz_callN {M : rz_M} {d nc ns n ix : Nat} (hts : ∀ w ∈ lw_good, w.before args s = true) (hX : rz_Env X xd A s) (hm : rz_mf M) (hn : rz_par M.1 = some n) (hh : M.2.2.2.2.2.2.2.2 = []) (hl : (rz_own oc, ix, M.1, "Latticeyard") ∈ rz_nests) (hRf : d + 9 ≤ R.frames) (hRl : 64 * d + 264 ≤ R.locals) :
    va_CN R s args (rz_own oc) ix M.1 "Latticeyard" M.2.1 M.2.2.1 M.2.2.2.1 (rz_hw M :: lw_good) (rz_rm d nc ns) nc ns n := by
  obtain ⟨h1, h2, h3, h4, h5, h6, h7⟩ := hm
  refine ⟨⟨rfl, rfl, ?_, ?_, rz_pay hts h2, ?_⟩, ?_, hts _ h1, h3, rz_parn hn, va_Nw.use rfl (hX.2.2.1 _ hl)⟩
  · show d + 8 + 1 ≤ R.frames; omega
  · show 8 + (M.2.2.1 + 11) + (64 * d + 200) ≤ R.locals; omega
  · rw [rz_hw_nil hh]; exact List.mem_cons_self
  · rw [← rz_hw_nil hh]; exact hts _ h2
theorem rz_callX {M : rz_M} {d nc ns n ix : Nat} (hts : ∀ w ∈ lw_good, w.before args s = true) (hm : rz_mf M) (hn : rz_par M.1 = some n) (hh : M.2.2.2.2.2.2.2.2 ≠ []) (hl : Cond.methodLink (rz_own oc) ix M.1 ∈ lw_good) (hst : Cond.static M.1 ∈ lw_good) (hRf : d + 9 ≤ R.frames) (hRl : 64 * d + 264 ≤ R.locals) :
    vx_CSW R s args (rz_own oc) ix M.1 M.2.1 M.2.2.1 M.2.2.2.1 M.2.2.2.2.2.2.2.2 (rz_hw M :: lw_good) (rz_rm d nc ns) nc ns n := by
  obtain ⟨h1, h2, h3, h4, h5, h6, h7⟩ := hm
  refine ⟨⟨rfl, rfl, ?_, ?_, rz_pay hts h2, ?_⟩, ?_, hts _ h1, h3, rz_parn hn, hts _ hl, hts _ hst⟩
  · show d + 8 + 1 ≤ R.frames; omega
  · show 8 + (M.2.2.1 + 11) + (64 * d + 200) ≤ R.locals; omega
  · rw [rz_hw_cons hh]; exact List.mem_cons_self
  · rw [← rz_hw_cons hh]; exact hts _ h2
set_option maxHeartbeats 1000000 in
theorem rz_call_run (hx : p.tables.exec = Jvm.exec) (hb : c.code = cc) (hml : c.maxLocals = nL) (hown : s.vm.findClass (rz_own oc) = some m.cls) (hts : ∀ w ∈ lw_good, w.before args s = true) (hX : rz_Env X xd A s) (hK : va_K (dC, dI) vwCl (rz_tys dA) s) (hP : va_P (dC, dI) vwCl (rz_ws ad xd dA w) H) (hD : va_D A (rz_ws ad xd dA w)) (hS : va_S A s.heap H locs) (hA : ∀ q, s.heap.size ≤ q → A q) (hlen : ls.size = nL)
    {i : Instr} {len d kind mid : Nat} {q : Nat × Nat} {st as r : List Value} (hi : rz_ca i = some q) (hg : rz_go0 oc w q st = some (kind, mid, as, r)) (hk9 : kind ≠ 9) (hd : decode cc pc = .ok (i, len)) (hl : rz_len i = len)
    {o : rz_O} {w' : rz_W} {nc ns : Nat} (hmf : ∀ M, rz_ms[mid]? = some M → rz_mf M) (hcn : rz_cn X dC dI dA xd l d mid as w o w' nc ns) (hRf : d + 9 ≤ R.frames) (hRl : 64 * d + 264 ≤ R.locals) (hcs : cells + nc ≤ R.cells ∧ slots + ns ≤ R.slots) :
    vx_Run p l e R s m args below meth c H locs cells slots nc ns (F0 m pc ls (st.map (rz_v ad xd))) (r.map (rz_v ad xd)) (rz_Qc dC dI dA xd ad w o w' (va_A (rz_ws ad xd dA w) H.size) #[]) (rz_XC dC dI dA xd ad w o w' (va_A (rz_ws ad xd dA w) H.size)) (va_A (rz_ws ad xd dA w) H.size) := by
  rw [rz_calen hi] at hl
  subst hl
  obtain ⟨n, rc, hn, hq, rfl, hln, hcat, hkind⟩ := rz_go0_inv hg
  have hpc : ∀ U : State, U.heap = H → s.WarmedH U.vm → rz_Pc X dC dI dA xd ad H.size as w (as.map (rz_v ad xd)).toArray U := fun U hU hW =>
    ⟨rfl, by rw [hU], by rw [hU]; exact hP, hK.moved hW.alike, hD.weaken (fun _ _ _ _ => trivial), hX.step hS hU hW (rz_free hD hS hA)⟩
  have hcat' : ((r.map (rz_v ad xd)).map fun v => v.category).sum ≤ 8 := by rw [rz_cats_map]; exact hcat
  have hst : (as.reverse ++ r).map (rz_v ad xd) = (as.map (rz_v ad xd)).reverse ++ r.map (rz_v ad xd) := by rw [List.map_append, List.map_reverse]
  have hlm : (as.map (rz_v ad xd)).length = n := by rw [List.length_map]; exact hln
  rcases cfa (rz_look_mem hq) with ⟨h9, -⟩ | ⟨M, hM, hf⟩
  · exact absurd h9 hk9
  · have hm := hmf M hM
    have hmet := hcn M hM ad H.size
    dsimp only at hM hf
    have hrec : ∀ {hh : Nat} {as0 : List Value}, as = .ref hh :: as0 → (as.reverse ++ r).map (rz_v ad xd) = (as0.map (rz_v ad xd)).reverse ++ Value.ref (ad hh) :: r.map (rz_v ad xd) := fun he => by
      rw [hst, he, List.map_cons, List.reverse_cons, List.append_assoc]; rfl
    rcases hf with ⟨hk, f1, f2, f3, f4⟩ | ⟨hk, f1, f2, f3, ⟨k, f4, f5⟩, f6, f7⟩ | ⟨hk, f1, f2, f3, ⟨k, f4, f5⟩, f6, f7⟩ | ⟨hk, f1, f2, f3, f4⟩ | ⟨hk, f1, f2, f3, ⟨k, f4, f5⟩, f6, f7⟩ | ⟨hk, f1, f2, f3, f4⟩
    · have h0 : q.1 = 0 := by
        rcases hkind with h | ⟨hh, as0, -, h | h⟩
        · exact h.2
        · omega
        · omega
      rw [rz_ca0 hi h0] at hd
      exact vx_runS (As := as.map (rz_v ad xd)) ⟨hx, hb, hml, hown, hts⟩ hmet ⟨rz_callB hts hm f3 f4 f1 hRf hRl, hts _ f2⟩ ⟨rz_Pc_blind, hpc⟩ rfl hlm hlen hst (lv_room hcat') hd hcs
    · have hr : ∃ (hh : Nat) (as0 : List Value), as = .ref hh :: as0 ∧ q.1 = 1 ∧ ∃ fs, w[hh]? = some (.inr (rc, fs)) := by
        rcases hkind with h | ⟨hh, as0, h1, h | h⟩
        · omega
        · exact ⟨hh, as0, h1, h.2.1, h.2.2⟩
        · omega
      obtain ⟨hh, as0, he, h0, fs, hw⟩ := hr
      rw [rz_ca1 hi h0] at hd
      obtain ⟨⟨C', T, N⟩, hc, -⟩ := hP _ _ (rz_ws_at (ad := ad) (xd := xd) (dA := dA) hw)
      obtain ⟨-, -, hon⟩ := rz_cls hc
      have hC : M.1.cls = C' := by rw [← f6, rz_own, List.getD_eq_getElem?_getD, hon]; rfl
      have hrcv := va_recv hK hP hc (rz_ws_at (ad := ad) (xd := xd) (dA := dA) hw)
      have hlk : as0.length = k := by rw [he] at hln; simp only [List.length_cons] at hln; omega
      refine vx_runV (C := M.1.cls) (b := ad hh) (As := as0.map (rz_v ad xd)) ⟨hx, hb, hml, hown, hts⟩ hmet ⟨rz_callB hts hm f4 f7 f1 hRf hRl, hts _ f2, hts _ f3⟩ ⟨rz_Pc_blind, by rw [hC]; exact hrcv, fun U hU hW => ?_⟩ rfl (by rw [List.length_map]; exact hlk) hlen (hrec he) (lv_room hcat') hd hcs
      have := hpc U hU hW
      rw [he] at this
      rw [he]
      exact this
    · have hr : ∃ (hh : Nat) (as0 : List Value), as = .ref hh :: as0 ∧ q.1 = 2 := by
        rcases hkind with h | ⟨hh, as0, h1, h | h⟩
        · omega
        · omega
        · exact ⟨hh, as0, h1, h.2⟩
      obtain ⟨hh, as0, he, h0⟩ := hr
      rw [rz_ca2 hi h0] at hd
      have hlk : as0.length = k := by rw [he] at hln; simp only [List.length_cons] at hln; omega
      have hcb := rz_callB (d := d) (nc := nc) (ns := ns) hts hm f4 f7 f1 hRf hRl
      rw [f6] at hcb
      refine vx_runI (b := ad hh) (As := as0.map (rz_v ad xd)) ⟨hx, hb, hml, hown, hts⟩ hmet ⟨hcb, f3, hts _ f2⟩ ⟨rz_Pc_blind, fun U hU hW => ?_⟩ rfl (by rw [List.length_map]; exact hlk) hlen (hrec he) (lv_room hcat') hd hcs
      have := hpc U hU hW
      rw [he] at this
      rw [he]
      exact this
    · have h0 : q.1 = 0 := by
        rcases hkind with h | ⟨hh, as0, -, h | h⟩
        · exact h.2
        · omega
        · omega
      rw [rz_ca0 hi h0] at hd
      exact vx_runSN (As := as.map (rz_v ad xd)) ⟨hx, hb, hml, hown, hts⟩ hmet ⟨rz_callN hts hX hm f3 f4 f1 hRf hRl, hts _ f2, trivial⟩ ⟨rz_Pc_blind, hpc⟩ rfl hlm hlen hst (lv_room hcat') hd hcs
    · have hr : ∃ (hh : Nat) (as0 : List Value), as = .ref hh :: as0 ∧ q.1 = 2 := by
        rcases hkind with h | ⟨hh, as0, h1, h | h⟩
        · omega
        · omega
        · exact ⟨hh, as0, h1, h.2⟩
      obtain ⟨hh, as0, he, h0⟩ := hr
      rw [rz_ca2 hi h0] at hd
      have hlk : as0.length = k := by rw [he] at hln; simp only [List.length_cons] at hln; omega
      have hcb := rz_callN (d := d) (nc := nc) (ns := ns) hts hX hm f4 f7 f1 hRf hRl
      rw [f6] at hcb
      refine vx_runIN (b := ad hh) (As := as0.map (rz_v ad xd)) ⟨hx, hb, hml, hown, hts⟩ hmet ⟨hcb, f3, hts _ f2⟩ ⟨rz_Pc_blind, fun U hU hW => ?_⟩ rfl (by rw [List.length_map]; exact hlk) hlen (hrec he) (lv_room hcat') hd hcs
      have := hpc U hU hW
      rw [he] at this
      rw [he]
      exact this
    · have h0 : q.1 = 0 := by
        rcases hkind with h | ⟨hh, as0, -, h | h⟩
        · exact h.2
        · omega
        · omega
      rw [rz_ca0 hi h0] at hd
      exact vx_runSX (As := as.map (rz_v ad xd)) ⟨hx, hb, hml, hown, hts⟩ hmet (rz_callX hts hm f3 f4 f1 f2 hRf hRl) ⟨rz_Pc_blind, hpc⟩ rfl hlm hlen hst (lv_room hcat') hd hcs
/-- behind a call -/
theorem rz_call_k {st0 rest : List Value} {o : rz_O} {w' : rz_W} {nc ns : Nat} {A1 : Nat → Prop} {a : Array Value} (hr : vx_Run p l e R s m args below meth c H locs cells slots nc ns (F0 m pc ls st0) rest (rz_Qc dC dI dA xd ad w o w' A1 a) (rz_XC dC dI dA xd ad w o w' A1) A1) (hS : va_S A s.heap H locs) (hA1 : ∀ q, A1 q → A q)
    (kk : ∀ v, o = .inl v → ∀ (ad' : Nat → Nat) (H1 : Heap) (locs1 : List Loc), (∀ k, k < w.length → ad' k = ad k) → va_P (dC, dI) vwCl (rz_ws ad' xd dA w') H1 → va_D A (rz_ws ad' xd dA w') → va_S A s.heap H1 locs1 → W p l e R s m args below meth c H1 locs1 (cells + nc) (slots + ns) Q (F0 m (pc + 3) ls ((v.map (rz_v ad' xd)).toList ++ rest)))
    (kx : ∀ E, o = .inr E → ∀ (ad' : Nat → Nat) (H1 : Heap) (locs1 : List Loc) (q9 : Addr) (ce : Cell), (∀ k, k < w.length → ad' k = ad k) → va_P (dC, dI) vwCl (rz_ws ad' xd dA w') H1 → va_D A (rz_ws ad' xd dA w') → va_S A s.heap H1 locs1 → H1[q9]? = some ce → ce.vm = .none → s.vm.findClass E = some ce.cls → vx_W p l e R s m args below meth c H1 locs1 (cells + nc) (slots + ns) Q (F0 m pc ls rest) q9) :
    W p l e R s m args below meth c H locs cells slots Q (F0 m pc ls st0) := by
  intro T hT X
  rcases hr T hT X with ⟨v, st₀, t, T', L, h0, X', hL, e1, e2, ⟨⟨v2, ad', ho, hv, h1, h2, h3⟩, hF⟩, st⟩ | ⟨q, st₀, t, T', L, E, ce, h0, X', hL, e1, e2, ⟨⟨ad', ho, h1, h2, h3⟩, hF⟩, hce, hcv, hcl, st⟩
  · cases hv
    obtain ⟨k1, k2, k3⟩ := vx_keep h0 e1 hS (fun q _ h => hA1 q h) hA1 hL hF
    obtain ⟨t2, a1, b1⟩ := kk v2 ho ad' T'.heap (locs ++ L) h1 (by rw [e1]; exact h2) (h3.weaken (fun k q _ h => hA1 q.1 h)) k3 T' rfl X'
    exact ⟨t2, st t2 a1, b1⟩
  · obtain ⟨k1, k2, k3⟩ := vx_keep h0 e1 hS (fun q _ h => hA1 q h) hA1 hL hF
    obtain ⟨t2, a1, b1⟩ := kx E ho ad' T'.heap (locs ++ L) q ce h1 (by rw [e1]; exact h2) (h3.weaken (fun k q _ h => hA1 q.1 h)) k3 (by rw [e1]; exact hce) hcv hcl T' rfl X'
    exact ⟨t2, st.trans a1, b1⟩
end RZK
