/-! part 16: every method's contract, out of the interpreter's answer -/
def rz_nm2 : List String := ["java/lang/RuntimeException", "java/lang/Exception"]
theorem rz_hand_inv {b : ByteArray} {oc nL : Nat} : ∀ {hh : List (Nat × Nat × Nat × Nat)} {hd : List (Nat × Nat × String × Nat × Nat)}, rz_hz b oc nL hh hd → ∀ {pc : Nat} {E : String} {h j : Nat}, rz_hand hd pc E = some (h, j) →
    ∃ (pre : List (Nat × Nat × Nat × Nat)) (a b' hp ct : Nat) (suf : List (Nat × Nat × Nat × Nat)), hh = pre ++ (a, b', hp, ct) :: suf ∧ a ≤ pc ∧ pc < b' ∧ ct ≠ 0 ∧ j < nL ∧ E ∈ rz_ex5 ∧ Cond.classLink (rz_own oc) ct E ∈ lw_good ∧ ((decode b hp = .ok (.astore j, 2) ∧ h = hp + 2) ∨ ∃ k : Fin 4, (k : Nat) = j ∧ decode b hp = .ok (.astore_n k, 1) ∧ h = hp + 1) ∧
      ∀ z ∈ pre, ¬ (z.1 ≤ pc ∧ pc < z.2.1) ∨ (z.2.2.2 ≠ 0 ∧ ∃ nm, nm ∈ rz_ex5 ∧ nm ≠ E ∧ Cond.classLink (rz_own oc) z.2.2.2 nm ∈ lw_good) := by
  intro hh
  induction hh with
  | nil =>
    intro hd hz pc E h j hq
    cases hd with
    | nil => cases hq
    | cons a t => cases hz
  | cons x t ih =>
    intro hd hz pc E h j hq
    obtain ⟨a, b', hp, ct⟩ := x
    cases hd with
    | nil => cases hz
    | cons y t' =>
      obtain ⟨a2, b2, nm, h2, j2⟩ := y
      obtain ⟨⟨rfl, rfl, z3, z4, z5, z6, z7⟩, zr⟩ := hz
      simp only [rz_hand] at hq
      split at hq
      · rename_i hin
        split at hq
        · rename_i hE
          cases hq
          subst hE
          exact ⟨[], a, b', hp, ct, t, rfl, hin.1, hin.2, z3, z4, z5, z6, z7, fun z hz => by cases hz⟩
        · rename_i hE
          obtain ⟨pre, a1, b1, hp1, ct1, suf, e1, e2, e3, e4, e5, e6, e7, e8, e9⟩ := ih zr hq
          refine ⟨(a, b', hp, ct) :: pre, a1, b1, hp1, ct1, suf, by rw [e1]; rfl, e2, e3, e4, e5, e6, e7, e8, fun z hz => ?_⟩
          rcases List.mem_cons.mp hz with rfl | hz
          · exact Or.inr ⟨z3, nm, z5, hE, z6⟩
          · exact e9 z hz
      · rename_i hin
        obtain ⟨pre, a1, b1, hp1, ct1, suf, e1, e2, e3, e4, e5, e6, e7, e8, e9⟩ := ih zr hq
        refine ⟨(a, b', hp, ct) :: pre, a1, b1, hp1, ct1, suf, by rw [e1]; rfl, e2, e3, e4, e5, e6, e7, e8, fun z hz => ?_⟩
        rcases List.mem_cons.mp hz with rfl | hz
        · exact Or.inl hin
        · exact e9 z hz
theorem rz_lp_lay {ad xd : Nat → Nat} (as : List Value) (k : Nat) : rz_lp ad xd k (rz_lay as) = lv_args k (as.map (rz_v ad xd)) := by
  induction as generalizing k with
  | nil => rfl
  | cons v t ih =>
    simp only [rz_lay, List.map_cons, lv_args, rz_cat]
    split
    · simp only [rz_lp, ih]
    · simp only [rz_lp, ih]
theorem rz_lp_pad {ad xd : Nat → Nat} (n k : Nat) (l : rz_L) : rz_lp ad xd k (rz_pad n l) = rz_lp ad xd k l := by
  induction n generalizing k l with
  | zero => rfl
  | succ n ih =>
    cases l with
    | nil => simp only [rz_pad, rz_lp, ih]
    | cons o t => cases o <;> simp only [rz_pad, rz_lp, ih]
theorem rz_pad_len {n : Nat} {l : rz_L} (h : l.length ≤ n) : (rz_pad n l).length = n := by
  induction n generalizing l with
  | zero => simp only [rz_pad]; omega
  | succ n ih =>
    cases l with
    | nil => simp only [rz_pad, List.length_cons, ih (l := []) (by simp)]
    | cons o t => simp only [rz_pad, List.length_cons] at h ⊢; rw [ih (by omega)]
theorem rz_lay_len {ad xd : Nat → Nat} (as : List Value) : (lg_sl (as.map (rz_v ad xd))).length = (rz_lay as).length := by
  induction as with
  | nil => rfl
  | cons v t ih =>
    have e1 : lg_sl ((v :: t).map (rz_v ad xd)) = (if (rz_v ad xd v).category = 2 then [Slot.val (rz_v ad xd v), Slot.second] else [Slot.val (rz_v ad xd v)]) ++ lg_sl (t.map (rz_v ad xd)) := by simp [lg_sl]
    rw [e1, List.length_append, ih, rz_cat]
    simp only [rz_lay]
    split <;> simp <;> omega
section RZX
variable {p : Program} {l : Launch} {e : Env} {R : Room} {s : State} {m : MethodId} {args : Array Value} {below : List Frame} {meth : Method} {c : Code} {xd : Nat → Nat} {dA : FieldType → ClassId} {dC : Nat → ClassId} {dI : Nat → Nat → Nat} {A : Nat → Prop} {X : rz_X} {M : rz_M} {d : Nat}
/-- a return -/
theorem rz_end_ret {H : Heap} {locs : List Loc} {cells slots pc len : Nat} {ls : Array Slot} {ad : Nat → Nat} {cc : ByteArray} {rt : Option FieldType} {i : Instr} {st : List Value} {o : Option Value} {Qc : Array Value → State → Outcome → State → Prop} {free : Addr → Prop} (hx : p.tables.exec = Jvm.exec) (hb : c.code = cc) (hr : meth.sig.returnType = rt) (hlk : meth.locks = false) (h : rz_rt rt i st = some o) (hd : decode cc pc = .ok (i, len)) (hl : rz_len i = len)
    (hq : ∀ t : State, t.heap = H → s.WarmedH t.vm → Qc args s (.returned (o.map (rz_v ad xd))) t) (hf : ∀ q ∈ locs, free q.base) :
    W p l e R s m args below meth c H locs cells slots (MQ below Qc args s cells slots free) (F0 m pc ls (st.map (rz_v ad xd))) := by
  subst hl
  unfold rz_rt at h
  split at h
  · split at h
    · rename_i ty
      split at h
      · rename_i hn
        cases h
        exact W.zret hx hb hr hn hq hf hd hlk
      · cases h
    · cases h
  · split at h
    · rename_i hrt
      cases h
      exact W.lret hx hb (hr.trans hrt) hq hf hd hlk
    · cases h
  · split at h
    · rename_i n
      cases h
      exact W.aret hx hb hr (Or.inl ⟨n, rfl⟩) (Or.inr ⟨_, rfl⟩) hq hf hd hlk
    · rename_i n
      cases h
      exact W.aret hx hb hr (Or.inr ⟨n, rfl⟩) (Or.inr ⟨_, rfl⟩) hq hf hd hlk
    · cases h
  · split at h
    · rename_i n
      cases h
      exact W.aret hx hb hr (Or.inl ⟨n, rfl⟩) (Or.inl rfl) hq hf hd hlk
    · rename_i n
      cases h
      exact W.aret hx hb hr (Or.inr ⟨n, rfl⟩) (Or.inl rfl) hq hf hd hlk
    · cases h
  · split at h
    · rename_i hrt
      cases h
      exact W.vret hx hb (hr.trans hrt) hq hf hd hlk
    · cases h
  · cases h
/-- a throw -/
theorem rz_end_thr {H : Heap} {locs : List Loc} {pc nc ns mc ms : Nat} {ls : Array Slot} {E : String} {Qc : Array Value → State → Outcome → State → Prop} {XC : String → State → State → Prop} {free : Addr → Prop} (hx : p.tables.exec = Jvm.exec) (hb : c.code = M.2.1) (hlt : l.stackTraces = false) (hown : s.vm.findClass (rz_own M.2.2.2.2.1) = some m.cls) (hts : ∀ w ∈ lw_good, w.before args s = true) (hX : rz_Env X xd A s) (hS : va_S A s.heap H locs) (ht : rz_txf M pc E) (hls : ls.size = c.maxLocals) (hno : ∀ x ∈ c.exceptionTable.toList, False) (hlk : meth.locks = false)
    (hRf : 5 < R.frames) (hRl : 100 ≤ R.locals) (hRc : nc + 1 ≤ R.cells) (hRs : ns + 6 ≤ R.slots) (hmc : nc + 1 ≤ mc) (hms : ns + 6 ≤ ms)
    (hxc : ∀ t : State, s.vm.Alike t.vm → H.size ≤ t.heap.size → (∀ q : Nat, q < H.size → t.heap[q]? = H[q]?) → XC E s t) (hf : ∀ z ∈ locs, free z.base) :
    W p l e R s m args below meth c H locs nc ns (vx_MQ below Qc XC args s mc ms free) (F0 m pc ls []) := by
  obtain ⟨hoc, ik, is, ic, h1, h2, ⟨text, h3⟩, h4, h5, h6⟩ := ht
  obtain ⟨g1, g2⟩ := rz_ics_fit _ h1
  have g3 := rz_ics_all _ h1
  dsimp only at g1 g2 g3
  obtain ⟨sa, hsa⟩ := hX.2.2.2.2.1 _ h3
  dsimp only at hsa
  have hini : Cond.initialized E ∈ lw_good := List.mem_filter.mpr ⟨g2, rfl⟩
  have hown' : s.vm.findClass RX10 = some m.cls := by rw [hoc] at hown; exact hown
  have key : ∀ Lw : List Cond, (∀ w ∈ Lw, w ∈ lw_tbl ∧ (vx_ot w = true ∧ (goodWord w || rz_sk w) = true)) → (∀ w ∈ Lw, w.before args s = true) ∧ (∀ w ∈ Cond.classLink RX10 ik E :: Cond.initialized E :: Lw, vx_ot w = true) := fun Lw g3 => by
    refine ⟨fun w hw => ?_, fun w hw => ?_⟩
    · obtain ⟨k1, k2, k3⟩ := g3 w hw
      simp only [Bool.or_eq_true] at k3
      rcases k3 with k3 | k3
      · exact hts w (List.mem_filter.mpr ⟨k1, k3⟩)
      · have hsf : w ∈ rz_soft := List.mem_filter.mpr ⟨k1, k3⟩
        have hnw := hX.2.2.2.1 w hsf
        have hon : w.onTables = true := by
          unfold rz_sk at k3
          split at k3
          · rfl
          · rfl
          · cases k3
        exact va_Nw.use hon hnw
    · rcases List.mem_cons.mp hw with rfl | hw
      · rfl
      · rcases List.mem_cons.mp hw with rfl | hw
        · rfl
        · exact (g3 w hw).2.1
  rcases g3 with g3 | g3
  · obtain ⟨hat, hgood⟩ := key _ g3
    rcases h6 with ⟨d4, d6, d9⟩ | ⟨d4, d7, d10⟩
    · exact vx_throwS hx hb hlt hown' g1 rz_nms_fit (hts _ h2) (hts _ hini) hsa hat hgood hX.2.2.2.2.2.1 hX.2.2.2.2.2.2.1 hS hls h4 h5 d4 d6 d9 (fun x hx => (hno x hx).elim) hRf (by simp only [List.map_nil, List.sum_nil, List.length_cons, List.length_nil]; omega) hRc hRs hlk hxc hf hmc hms
    · exact vx_throwSW hx hb hlt hown' g1 rz_nms_fit (hts _ h2) (hts _ hini) hsa hat hgood hX.2.2.2.2.2.1 hX.2.2.2.2.2.2.1 hS hls h4 h5 d4 d7 d10 (fun x hx => (hno x hx).elim) hRf (by simp only [List.map_nil, List.sum_nil, List.length_cons, List.length_nil]; omega) hRc hRs hlk hxc hf hmc hms
  · obtain ⟨hat, hgood⟩ := key _ g3
    rcases h6 with ⟨d4, d6, d9⟩ | ⟨d4, d7, d10⟩
    · exact rz_throwSX hx hb hlt rz_rx0 rz_rx1 rz_rx2 rz_rx5 hown' g1 rz_nms_fit (hts _ h2) (hts _ hini) hsa hat hgood hX.2.2.2.2.2.1 hX.2.2.2.2.2.2.1 hS hls h4 h5 d4 d6 d9 (fun x hx => (hno x hx).elim) hRf (by simp only [List.map_nil, List.sum_nil, List.length_cons, List.length_nil]; omega) hRc hRs hlk hxc hf hmc hms
    · exact rz_throwSWX hx hb hlt rz_rx0 rz_rx1 rz_rx2 rz_rx5 hown' g1 rz_nms_fit (hts _ h2) (hts _ hini) hsa hat hgood hX.2.2.2.2.2.1 hX.2.2.2.2.2.2.1 hS hls h4 h5 d4 d7 d10 (fun x hx => (hno x hx).elim) hRf (by simp only [List.map_nil, List.sum_nil, List.length_cons, List.length_nil]; omega) hRc hRs hlk hxc hf hmc hms
/-- a handler -/
theorem rz_end_hand {H : Heap} {locs : List Loc} {pc nc ns h j nL : Nat} {ls : Array Slot} {E : String} {loc : rz_L} {ad : Nat → Nat} {rest : List Value} {q9 : Addr} {ce : Cell} {Q : State → Prop} (hx : p.tables.exec = Jvm.exec) (hb : c.code = M.2.1) (hown : s.vm.findClass (rz_own M.2.2.2.2.1) = some m.cls) (hts : ∀ w ∈ lw_good, w.before args s = true) (hX : rz_Env X xd A s) (htab : c.exceptionTable.toList = tableOf M.2.2.2.2.2.2.2.2) (hz : rz_hz M.2.1 M.2.2.2.2.1 nL M.2.2.2.2.2.2.2.2 M.2.2.2.2.2.2.2.1) (hq : rz_hand M.2.2.2.2.2.2.2.1 pc E = some (h, j))
    (hlo : rz_lok ad xd ls nL loc) (hcell : H[q9]? = some ce) (hcv : ce.vm = .none) (hcl : s.vm.findClass E = some ce.cls)
    (k : ∀ ls' : Array Slot, rz_lok ad xd ls' nL (rz_upd (rz_clr loc j) j none) → W p l e R s m args below meth c H locs nc ns Q (F0 m h ls' [])) : vx_W p l e R s m args below meth c H locs nc ns Q (F0 m pc ls rest) q9 := by
  obtain ⟨pre, a, b', hp, ct, suf, e1, e2, e3, e4, e5, e6, e7, e8, e9⟩ := rz_hand_inv hz hq
  have hcov : ∀ (a b' hp ct : Nat), covers ⟨a, b', hp, ct⟩ pc = true ↔ a ≤ pc ∧ pc < b' := fun a b' hp ct => by simp [covers]
  have hsp : c.exceptionTable.toList = tableOf pre ++ ⟨a, b', hp, ct⟩ :: tableOf suf := by
    rw [htab, e1]
    simp [tableOf]
  refine vx_catch hown (tableOf pre) ⟨a, b', hp, ct⟩ (tableOf suf) hsp (fun z hz => ?_) ((hcov _ _ _ _).mpr ⟨e2, e3⟩) e4 (hts _ e7) (va_Nw.use rfl (hX.2.2.2.1 _ (rz_cas_all E e6))) hcell hcv hcl ?_
  · obtain ⟨y, hy, rfl⟩ := List.mem_map.mp hz
    rcases e9 y hy with h1 | ⟨h1, nm, h2, h3, h4⟩
    · refine Or.inl ?_
      have := (hcov y.1 y.2.1 y.2.2.1 y.2.2.2)
      cases hc : covers ⟨y.1, y.2.1, y.2.2.1, y.2.2.2⟩ pc with
      | false => rfl
      | true => exact absurd (this.mp hc) h1
    · exact Or.inr ⟨h1, nm, hts _ h4, hX.2.2.2.2.2.2.2 _ (rz_ncs_all E e6 nm h2 (fun q => h3 q.symm))⟩
  · obtain ⟨hn, hh⟩ := hlo
    rcases e8 with ⟨d1, rfl⟩ | ⟨k0, rfl, d1, rfl⟩
    · exact lv_astore hx hb d1 hh e5 rfl (fun ls' h' => k ls' (rz_lok0 hn h'))
    · exact lv_astore_n hx hb d1 rfl hh e5 rfl (fun ls' h' => k ls' (rz_lok0 hn h'))
end RZX
theorem rz_ofB {l : Launch} {rm : Room} {Pc : Array Value → State → Prop} {Qc : Array Value → State → Outcome → State → Prop} {XC : String → State → State → Prop} {mc ms : Nat} {free : Addr → Prop} {M : rz_M} (hy : plainFor M.1 = true)
    (body : ∀ p e s m args below meth c s₁, BodyLoose p l M.1 (headSpec (rz_hw M :: lw_good) rm) M.2.1 M.2.2.1 M.2.2.2.1 e s m args below meth c s₁ → c.maxLocals = M.2.2.1 → c.exceptionTable.toList = tableOf M.2.2.2.2.2.2.2.2 → Pc args s →
      W p l e (headSpec (rz_hw M :: lw_good) rm).room s m args below meth c s.heap [] 0 0 (vx_MQ below Qc XC args s mc ms free) (entryFrame m args M.2.2.1)) : vx_Met l M.1 (rz_hw M :: lw_good) rm Pc Qc XC mc ms free := by
  have key : ∀ (args : Array Value) (s : State) (m : MethodId), (headSpec (rz_hw M :: lw_good) rm).pre.before args s = true → s.methodNamed? M.1 = some m → ∃ meth c, s.vm.method? m = some meth ∧ meth.code = some c ∧ c.code = M.2.1 ∧ c.maxLocals = M.2.2.1 ∧ meth.sig.returnType = M.2.2.2.1 ∧ meth.locks = false ∧ c.exceptionTable.toList = tableOf M.2.2.2.2.2.2.2.2 := by
    intro args s m h hn
    have h0 := atoms_spec (ws := rz_hw M :: lw_good) h _ List.mem_cons_self
    by_cases hh : M.2.2.2.2.2.2.2.2 = []
    · rw [rz_hw_nil hh] at h0
      obtain ⟨meth, c, h1, h2, h3, h4, h5, h6, h7, -⟩ := Cond.code_spec hn h0
      exact ⟨meth, c, h1, h2, h3, h4, h5, h6, by rw [hh, Array.isEmpty_iff.mp h7]; rfl⟩
    · rw [rz_hw_cons hh] at h0
      obtain ⟨m9, meth, c, hn9, h1, h2, h3, h4, h7, h5, h6, -⟩ := Cond.codeWith_spec h0
      cases hn.symm.trans hn9
      exact ⟨meth, c, h1, h2, h3, h4, h5, h6, by rw [← h7, table_eq]⟩
  refine MetFree.of_bodySF (code := M.2.1) (maxLocals := M.2.2.1) (ret := M.2.2.2.1) hy ?_ ?_
  · intro args s m h hn
    obtain ⟨meth, c, h1, h2, h3, h4, h5, h6, -⟩ := key args s m h hn
    exact ⟨meth, c, h1, h2, h3, h4, h5, h6⟩
  · intro p e s m args below meth c s₁ B hml hP _
    have hh0 : s₁.heap = s.heap := by rw [B.state]; rfl
    have ht : c.exceptionTable.toList = tableOf M.2.2.2.2.2.2.2.2 := by
      obtain ⟨meth9, c9, h1, h2, -, -, -, -, h7⟩ := key args s m B.pre B.named
      cases Option.some.inj (h1.symm.trans B.method)
      cases Option.some.inj (h2.symm.trans (Stand.of_body B).code)
      exact h7
    obtain ⟨t, a1, o, b1, b2, b3⟩ := body p e s m args below meth c s₁ B hml ht hP s₁ hh0 (Stand.of_body B)
    exact ⟨t, o, a1, b1, b2, b3⟩
theorem rz_hz_nil {b : ByteArray} {oc nL : Nat} {hh : List (Nat × Nat × Nat × Nat)} (h : rz_hz b oc nL hh []) : hh = [] := by
  cases hh with
  | nil => rfl
  | cons a t => cases h
section RZT
variable {dA : FieldType → ClassId} {dC : Nat → ClassId} {dI : Nat → Nat → Nat} {X : rz_X} {xd : Nat → Nat}
set_option maxHeartbeats 1000000 in
/-- EVERY METHOD, AT EVERY DEPTH -/
theorem rz_contract {l : Launch} (hlt : l.stackTraces = false) : ∀ (d mid : Nat) (as : List Value) (w : rz_W) (o : rz_O) (w' : rz_W) (nc ns : Nat), rz_ex X d mid as w = some (o, w', nc, ns) → rz_wf w → rz_sv w.length as → rz_cn X dC dI dA xd l d mid as w o w' nc ns := by
  intro d
  induction d with
  | zero => intro mid as w o w' nc ns h; cases h
  | succ d ih =>
    intro mid as w o w' nc ns h hw hs M hM ad sz
    simp only [rz_ex, hM] at h
    split at h
    rotate_left
    · cases h
    rename_i hlen
    obtain ⟨n, hn⟩ := rz_go_inv h
    have hMm := List.mem_of_getElem? hM
    have hm := mfa M hMm
    obtain ⟨he1, he2, he3⟩ := efa M hMm
    obtain ⟨-, -, -, -, hpf, hoc, hck⟩ := id hm
    refine rz_ofB hpf ?_
    intro p e s m args below meth c s₁ B hml htab hv
    obtain ⟨rfl, hsz, hP, hK, hD0, hE⟩ := hv
    subst hsz
    have hx := B.exec
    have hb := B.bytes
    have hr := B.returns
    have hlk := B.notSynchronized
    have hts : ∀ w ∈ lw_good, w.before (as.map (rz_v ad xd)).toArray s = true := fun w hw => atoms_spec (ws := rz_hw M :: lw_good) B.pre w (List.mem_cons_of_mem _ hw)
    have hown : s.vm.findClass (rz_own M.2.2.2.2.1) = some m.cls := by rw [hoc]; exact findClass_of_methodNamed B.named
    have hin : (M.1.name == "<init>") = true → meth.name = "<init>" := fun q => by rw [(name_of_methodNamed B.named B.method).1]; exact eq_of_beq q
    have hD := hD0.self (sz := s.heap.size)
    have hl := lv_entry (as.map (rz_v ad xd)) (n := M.2.2.1) (by rw [rz_lay_len]; exact hlen)
    rw [lg_entry_eq]
    generalize (lg_sl (as.map (rz_v ad xd)) ++ List.replicate (M.2.2.1 - (lg_sl (as.map (rz_v ad xd))).length) Slot.unset).toArray = ls at hl ⊢
    have hlo : rz_lok ad xd ls M.2.2.1 (rz_pad M.2.2.1 (rz_lay as)) := ⟨rz_pad_len hlen, by rw [rz_lp_pad, rz_lp_lay]; exact hl⟩
    refine rz_run_sound (R := rz_rm (d + 1) nc ns) (n0 := w.length) (ad0 := ad) (r := (o, w', nc, ns)) hx hb hml hck mfa hown hin hts hE hK (fun q h => Or.inr h) (by show d + 9 ≤ d + 1 + 8; omega) (by show 64 * d + 264 ≤ 64 * (d + 1) + 200; omega) (fun mid as w o w' nc ns h h1 h2 => ih mid as w o w' nc ns h h1 h2) (Nat.le_refl _) (Nat.le_refl _) ?_ ?_ ?_ ?_ n 0 _ [] w 0 0 hn hw (fun i v hv => rz_lay_lv hs i v (rz_at_pad hv)) (fun v hv => by cases hv) (Nat.le_refl _) ad (fun _ _ => rfl) s.heap [] ls hP hD va_S.rf hlo
    · intro o' ho ad' hag H locs ls pc i len st hP hD hS hrt hd hl
      exact vx_ret (rz_end_ret hx hb hr hlk hrt hd hl (fun t ht hW => ⟨⟨o', ad', ho, rfl, hag, by rw [ht]; exact hP, hD⟩, hS.F ht⟩) hS.2.2)
    · intro E hE' nc0 ns0 e1 e2 ad' hag H locs ls pc hP hD hS hlook hls
      dsimp only at e1 e2 hE' hP hD
      have htx := he1 _ (rz_look_mem hlook)
      have hnil : M.2.2.2.2.2.2.2.2 = [] := by
        rcases he3 with q | q
        · rw [q] at hlook; cases hlook
        · exact q
      refine rz_end_thr (M := M) hx hb hlt hown hts hE hS htx (hls.trans hml.symm) (fun x hx => by rw [htab, hnil] at hx; cases hx) hlk (by show 5 < d + 1 + 8; omega) (by show 100 ≤ 64 * (d + 1) + 200; omega) (by show nc0 + 1 ≤ nc; omega) (by show ns0 + 6 ≤ ns; omega) (by omega) (by omega) (fun t hal hz hk => ⟨⟨ad', hE', hag, ?_, hD⟩, ?_⟩) hS.2.2
      · exact hP.kept (fun k q hq => hk q.1 (vx_lt hP hq))
      · exact ⟨Nat.le_trans hS.1 hz, fun q h1 h2 => (hk q (Nat.lt_of_lt_of_le h1 hS.1)).trans (hS.2.1 q h1 h2)⟩
    · intro E hE' ad' hag H locs ls pc rest q9 ce hP hD hS h1 h2 h3 h4 h5
      rw [h5] at he2
      have hnil := rz_hz_nil he2
      exact vx_out (fun x hx => by rw [htab, hnil] at hx; cases hx) hlk h1 h2 h3 (fun t ht hal => ⟨⟨ad', hE', hag, by rw [ht]; exact hP, hD⟩, hS.F ht⟩) hS.2.2 (Nat.le_refl _) (Nat.le_refl _)
    · intro E pc h j hq loc ad' H locs ls rest q9 ce nc0 ns0 hlo' h1 h2 h3 k
      exact rz_end_hand (M := M) hx hb hown hts hE htab he2 hq hlo' h1 h2 h3 k
end RZT
