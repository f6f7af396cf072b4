/-! part 10: what a method is given, what it owes; calls -/
def rz_sk (w : Cond) : Bool := match w with
  | .castable _ _ => true
  | .declares _ => true
  | _ => false
def rz_soft : List Cond := lw_tbl.filter rz_sk
def rz_Env (X : rz_X) (xd : Nat → Nat) (A : Nat → Prop) (U : State) : Prop :=
  rz_Xr X xd A U ∧ va_AO "Latticeyard$Grid" U ∧ (∀ q ∈ rz_nests, va_Nw (.methodLinkNest q.1 q.2.1 q.2.2.1 q.2.2.2) U) ∧ (∀ w ∈ rz_soft, va_Nw w U) ∧ (∀ q ∈ rz_strs, ∃ sa, vk_R RX10 q.1 q.2 sa U) ∧
  vx_Zq Bundle.tN "UNASSIGNED_STACK" Bundle.steD A U U.heap ∧ vx_Zq Bundle.tN "SUPPRESSED_SENTINEL" Bundle.listD A U U.heap ∧ (∀ q ∈ rz_ncs, va_Nc q.1 q.2 U)
theorem rz_Env.step {X : rz_X} {xd : Nat → Nat} {A A' : Nat → Prop} {s U : State} {H : Heap} {locs : List Loc} (h : rz_Env X xd A s) (hS : va_S A s.heap H locs) (hU : U.heap = H) (hW : s.WarmedH U.vm) (hA : ∀ q, A' q → A q) : rz_Env X xd A' U := by
  obtain ⟨⟨h1, h2, h3⟩, h4, h5, h6, h7, h8, h9, h10⟩ := h
  subst hU
  refine ⟨⟨fun e n f hf => ?_, ?_, ?_⟩, h4.moved hW.alike, fun q hq => (h5 q hq).warmM hW, fun w hw => ?_, fun q hq => ?_, ?_, ?_, fun q hq => (h10 q hq).moved hW.alike⟩
  · exact (((h1 e n f hf).kept hS.2.1).moved hW.alike).narrow hA
  · exact ((h2.kept hS.2.1).moved hW.alike).narrow hA
  · exact ((h3.kept hS.2.1).moved hW.alike).narrow hA
  · have hw1 := h6 w hw
    have hw2 := (List.mem_filter.mp hw).2
    unfold rz_sk at hw2
    split at hw2
    · exact hw1.warmC hW
    · exact hw1.warmD hW
    · cases hw2
  · obtain ⟨sa, hsa⟩ := h7 q hq
    exact ⟨sa, hsa.warm hW⟩
  · exact (vx_Zq.moved hW.alike (h8.kept hS.2.1)).narrow hA
  · exact (vx_Zq.moved hW.alike (h9.kept hS.2.1)).narrow hA
def rz_hw : rz_M → Cond
  | (y, b, ml, rt, _, _, _, _, []) => .code y b ml rt
  | (y, b, ml, rt, _, _, _, _, h :: t) => .codeWith y b ml rt (h :: t)
section RZC
variable {dC : Nat → ClassId} {dI : Nat → Nat → Nat} {dA : FieldType → ClassId} {xd : Nat → Nat} {X : rz_X}
def rz_Pc (X : rz_X) (dC : Nat → ClassId) (dI : Nat → Nat → Nat) (dA : FieldType → ClassId) (xd ad : Nat → Nat) (sz : Nat) (as : List Value) (w : rz_W) : Array Value → State → Prop :=
  va_Pc (as.map (rz_v ad xd)) (fun U => U.heap.size = sz ∧ va_P (dC, dI) vwCl (rz_ws ad xd dA w) U.heap ∧ va_K (dC, dI) vwCl (rz_tys dA) U ∧ va_D (fun _ => True) (rz_ws ad xd dA w) ∧ rz_Env X xd (va_A (rz_ws ad xd dA w) sz) U)
def rz_Bt (dC : Nat → ClassId) (dI : Nat → Nat → Nat) (dA : FieldType → ClassId) (xd ad : Nat → Nat) (w w' : rz_W) (A : Nat → Prop) (ad' : Nat → Nat) (t : State) : Prop :=
  (∀ k, k < w.length → ad' k = ad k) ∧ va_P (dC, dI) vwCl (rz_ws ad' xd dA w') t.heap ∧ va_D A (rz_ws ad' xd dA w')
def rz_Qc (dC : Nat → ClassId) (dI : Nat → Nat → Nat) (dA : FieldType → ClassId) (xd ad : Nat → Nat) (w : rz_W) (o : rz_O) (w' : rz_W) (A : Nat → Prop) : Array Value → State → Outcome → State → Prop := fun _ st oc t =>
  (∃ (v : Option Value) (ad' : Nat → Nat), o = .inl v ∧ oc = .returned (v.map (rz_v ad' xd)) ∧ rz_Bt dC dI dA xd ad w w' A ad' t) ∧ va_F A st t
def rz_XC (dC : Nat → ClassId) (dI : Nat → Nat → Nat) (dA : FieldType → ClassId) (xd ad : Nat → Nat) (w : rz_W) (o : rz_O) (w' : rz_W) (A : Nat → Prop) : String → State → State → Prop := fun E st t =>
  (∃ ad' : Nat → Nat, o = .inr E ∧ rz_Bt dC dI dA xd ad w w' A ad' t) ∧ va_F A st t
/-- the room of a method at a depth -/
abbrev rz_rm (d nc ns : Nat) : Room := { frames := d + 8, cells := nc, slots := ns, locals := 64 * d + 200 }
/-- method mid at as, w: it ends with o, and the cells are w' -/
def rz_cn (X : rz_X) (dC : Nat → ClassId) (dI : Nat → Nat → Nat) (dA : FieldType → ClassId) (xd : Nat → Nat) (l : Launch) (d mid : Nat) (as : List Value) (w : rz_W) (o : rz_O) (w' : rz_W) (nc ns : Nat) : Prop :=
  ∀ M, rz_ms[mid]? = some M → ∀ (ad : Nat → Nat) (sz : Nat), vx_Met l M.1 (rz_hw M :: lw_good) (rz_rm d nc ns) (rz_Pc X dC dI dA xd ad sz as w) (rz_Qc dC dI dA xd ad w o w' (va_A (rz_ws ad xd dA w) sz)) (rz_XC dC dI dA xd ad w o w' (va_A (rz_ws ad xd dA w) sz)) nc ns (va_A (rz_ws ad xd dA w) sz)
theorem rz_Pc_blind {ad : Nat → Nat} {sz : Nat} {as : List Value} {w : rz_W} : FrameBlind (rz_Pc X dC dI dA xd ad sz as w) := by
  intro a U g mk h
  obtain ⟨h0, h1, h2, h3, h4, h5⟩ := h
  exact ⟨h0, h1, h2, va_K.moved (u := U) (U := U.calling g mk a) (Vm.Alike.refl U.vm) h3, h4, h5.step va_S.rf rfl (State.WarmedH.refl U) (fun _ h => h)⟩
theorem rz_go0_inv {oc : Nat} {w : rz_W} {q : Nat × Nat} {st as r : List Value} {kind mid : Nat} (h : rz_go0 oc w q st = some (kind, mid, as, r)) : ∃ (n rc : Nat) (hn : Nat × Nat × Nat × Nat × Nat), rz_look (rz_clT.getD oc []) q.2 = some (kind, mid, n, rc, hn) ∧ st = as.reverse ++ r ∧ as.length = n ∧ rz_cats r ≤ 8 ∧
    (((kind = 0 ∨ kind = 3 ∨ kind = 5) ∧ q.1 = 0) ∨ ∃ (hh : Nat) (as0 : List Value), as = .ref hh :: as0 ∧ ((kind = 1 ∧ q.1 = 1 ∧ ∃ fs, w[hh]? = some (.inr (rc, fs))) ∨ ((kind = 2 ∨ kind = 4 ∨ kind = 9) ∧ q.1 = 2))) := by
  unfold rz_go0 at h
  split at h
  · rename_i kd md n rc hn hq
    split at h
    · cases h
    · rename_i hlen
      simp only [not_or, Nat.not_lt] at hlen
      have hst : st = ((st.take n).reverse).reverse ++ st.drop n := by rw [List.reverse_reverse, List.take_append_drop]
      have hln : ((st.take n).reverse).length = n := by rw [List.length_reverse, List.length_take]; omega
      split at h
      · rename_i hk
        cases h
        exact ⟨n, rc, hn, hq, hst, hln, hlen.2, Or.inl hk⟩
      · split at h
        · rename_i hh as0 ht
          rw [ht] at hst hln
          split at h
          · rename_i hk
            split at h
            · rename_i ci fs hw
              split at h
              · rename_i hc
                cases h
                subst hc
                exact ⟨n, _, hn, hq, hst, hln, hlen.2, Or.inr ⟨hh, as0, rfl, Or.inl ⟨hk.1, hk.2, fs, hw⟩⟩⟩
              · cases h
            · cases h
          · split at h
            · rename_i hk
              cases h
              exact ⟨n, rc, hn, hq, hst, hln, hlen.2, Or.inr ⟨hh, as0, rfl, Or.inr hk⟩⟩
            · cases h
        · cases h
  · cases h
def rz_par (y : MethodName) : Option Nat := (parseMethodDescriptor y.desc).map (fun d => d.parameters.length)
def rz_clc (oc : Nat) : Nat × Nat × Nat × Nat × Nat × Nat × Nat × Nat × Nat × Nat → Bool
  | (ix, kind, mid, n, rc, h1, h2, h3, h4, h5) =>
    match kind with
    | 9 => decide (lw_tbl[h1]? = some (.methodLink (rz_own oc) ix objectInit)) && (decide (lw_tbl[h2]? = some (.instanceMethod objectInit)) && (decide (lw_tbl[h5]? = some (.code objectInit ⟨#[0xb1]⟩ 1 none)) && decide (n = 1)))
    | kind => match rz_ms[mid]? with
      | none => false
      | some M => decide (lw_tbl[h4]? = some (.initialized M.1.cls)) && (decide (M.1.cls ≠ "java/lang/invoke/MethodHandle") && (decide (M.1.cls ≠ "java/lang/invoke/VarHandle") && (decide (lw_tbl[h5]? = some (rz_hw M)) && (decide (M.2.2.1 ≤ 40) && match kind with
        | 0 => decide (lw_tbl[h1]? = some (.methodLink (rz_own oc) ix M.1)) && (decide (lw_tbl[h2]? = some (.static M.1)) && (decide (rz_par M.1 = some n) && M.2.2.2.2.2.2.2.2.isEmpty))
        | 1 => decide (lw_tbl[h1]? = some (.methodLink (rz_own oc) ix M.1)) && (decide (lw_tbl[h2]? = some (.instanceMethod M.1)) && (decide (lw_tbl[h3]? = some (.selects M.1.cls M.1 M.1)) && (decide ((rz_par M.1).map (· + 1) = some n) && (decide (rz_own rc = M.1.cls) && M.2.2.2.2.2.2.2.2.isEmpty))))
        | 2 => decide (lw_tbl[h1]? = some (.methodLink (rz_own oc) ix M.1)) && (decide (lw_tbl[h2]? = some (.instanceMethod M.1)) && (decide (M.1.name = "<init>") && (decide ((rz_par M.1).map (· + 1) = some n) && (decide (M.2.2.2.1 = none) && M.2.2.2.2.2.2.2.2.isEmpty))))
        | 3 => decide ((rz_own oc, ix, M.1, "Latticeyard") ∈ rz_nests) && (decide (lw_tbl[h2]? = some (.static M.1)) && (decide (rz_par M.1 = some n) && M.2.2.2.2.2.2.2.2.isEmpty))
        | 4 => decide ((rz_own oc, ix, M.1, "Latticeyard") ∈ rz_nests) && (decide (lw_tbl[h2]? = some (.instanceMethod M.1)) && (decide (M.1.name = "<init>") && (decide ((rz_par M.1).map (· + 1) = some n) && (decide (M.2.2.2.1 = none) && M.2.2.2.2.2.2.2.2.isEmpty))))
        | 5 => decide (lw_tbl[h1]? = some (.methodLink (rz_own oc) ix M.1)) && (decide (lw_tbl[h2]? = some (.static M.1)) && (decide (rz_par M.1 = some n) && !M.2.2.2.2.2.2.2.2.isEmpty))
        | _ => false))))
end RZC
