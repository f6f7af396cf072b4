/-! part 15: what the interpreter answers, the machine answers -/
theorem rz_v_agree {n : Nat} {ad ad' xd : Nat → Nat} (h : ∀ k, k < n → ad' k = ad k) {v : Value} (hv : rz_rv n v) : rz_v ad' xd v = rz_v ad xd v := by
  cases v with
  | ref a => show Value.ref (ad' a) = Value.ref (ad a); rw [h a (hv a rfl)]
  | _ => rfl
theorem rz_sv_agree {n : Nat} {ad ad' xd : Nat → Nat} (h : ∀ k, k < n → ad' k = ad k) {st : List Value} (hs : rz_sv n st) : st.map (rz_v ad' xd) = st.map (rz_v ad xd) := List.map_congr_left fun v hv => rz_v_agree h (hs v hv)
theorem rz_lp_agree {n : Nat} {ad ad' xd : Nat → Nat} (h : ∀ k, k < n → ad' k = ad k) {loc : rz_L} (hl : rz_lv n loc) (k : Nat) : rz_lp ad' xd k loc = rz_lp ad xd k loc := by
  induction loc generalizing k with
  | nil => rfl
  | cons o t ih =>
    have ht : rz_lv n t := fun i v hv => hl (i + 1) v hv
    cases o with
    | none => exact ih ht (k + 1)
    | some v =>
      show (k, rz_v ad' xd v) :: rz_lp ad' xd (k + 1) t = (k, rz_v ad xd v) :: rz_lp ad xd (k + 1) t
      rw [ih ht (k + 1), rz_v_agree h (hl 0 v rfl)]
theorem rz_lok_agree {n nL : Nat} {ad ad' xd : Nat → Nat} (h : ∀ k, k < n → ad' k = ad k) {loc : rz_L} (hl : rz_lv n loc) {ls : Array Slot} (hk : rz_lok ad xd ls nL loc) : rz_lok ad' xd ls nL loc := by
  refine ⟨hk.1, ?_⟩
  rw [rz_lp_agree h hl 0]
  exact hk.2
theorem rz_up_agree {n q : Nat} {ad : Nat → Nat} : ∀ k, k < n → va_up ad n q k = ad k := fun k hk => by
  unfold va_up
  rw [if_neg (Nat.ne_of_lt hk)]
section RZM
variable {p : Program} {l : Launch} {e : Env} {R : Room} {s : State} {m : MethodId} {args : Array Value} {below : List Frame} {meth : Method} {c : Code} {Q : State → Prop} {xd : Nat → Nat} {dA : FieldType → ClassId} {dC : Nat → ClassId} {dI : Nat → Nat → Nat} {A : Nat → Prop} {X : rz_X} {M : rz_M} {d : Nat}
set_option maxHeartbeats 4000000 in
theorem rz_run_sound (hx : p.tables.exec = Jvm.exec) (hb : c.code = M.2.1) (hml : c.maxLocals = M.2.2.1) (hck : ∀ q ∈ M.2.2.2.2.2.1, rz_ck M.2.1 q = true) (hmfa : ∀ M', M' ∈ rz_ms → rz_mf M') (hown : s.vm.findClass (rz_own M.2.2.2.2.1) = some m.cls) (hin : (M.1.name == "<init>") = true → meth.name = "<init>") (hts : ∀ w ∈ lw_good, w.before args s = true) (hX : rz_Env X xd A s) (hK : va_K (dC, dI) vwCl (rz_tys dA) s) (hA : ∀ q, s.heap.size ≤ q → A q)
    (hRf : d + 9 ≤ R.frames) (hRl : 64 * d + 264 ≤ R.locals) (hcon : ∀ mid as w o w' nc ns, rz_ex X d mid as w = some (o, w', nc, ns) → rz_wf w → rz_sv w.length as → rz_cn X dC dI dA xd l d mid as w o w' nc ns)
    {n0 : Nat} {ad0 : Nat → Nat} {r : rz_R} (hRc : r.2.2.1 ≤ R.cells) (hRs : r.2.2.2 ≤ R.slots)
    (hret : ∀ (o : Option Value), r.1 = .inl o → ∀ (ad : Nat → Nat), (∀ k, k < n0 → ad k = ad0 k) → ∀ (H : Heap) (locs : List Loc) (ls : Array Slot) (pc : Nat) (i : Instr) (len : Nat) (st : List Value), va_P (dC, dI) vwCl (rz_ws ad xd dA r.2.1) H → va_D A (rz_ws ad xd dA r.2.1) → va_S A s.heap H locs → rz_rt M.2.2.2.1 i st = some o → decode M.2.1 pc = .ok (i, len) → rz_len i = len → W p l e R s m args below meth c H locs r.2.2.1 r.2.2.2 Q (F0 m pc ls (st.map (rz_v ad xd))))
    (hthr : ∀ (E : String), r.1 = .inr E → ∀ (nc ns : Nat), r.2.2.1 = nc + 1 → r.2.2.2 = ns + 6 → ∀ (ad : Nat → Nat), (∀ k, k < n0 → ad k = ad0 k) → ∀ (H : Heap) (locs : List Loc) (ls : Array Slot) (pc : Nat), va_P (dC, dI) vwCl (rz_ws ad xd dA r.2.1) H → va_D A (rz_ws ad xd dA r.2.1) → va_S A s.heap H locs → rz_look M.2.2.2.2.2.2.1 pc = some E → ls.size = M.2.2.1 → W p l e R s m args below meth c H locs nc ns Q (F0 m pc ls []))
    (hout : ∀ (E : String), r.1 = .inr E → ∀ (ad : Nat → Nat), (∀ k, k < n0 → ad k = ad0 k) → ∀ (H : Heap) (locs : List Loc) (ls : Array Slot) (pc : Nat) (rest : List Value) (q9 : Addr) (ce : Cell), va_P (dC, dI) vwCl (rz_ws ad xd dA r.2.1) H → va_D A (rz_ws ad xd dA r.2.1) → va_S A s.heap H locs → H[q9]? = some ce → ce.vm = .none → s.vm.findClass E = some ce.cls → rz_hand M.2.2.2.2.2.2.2.1 pc E = none → M.2.2.2.2.2.2.2.1 = [] → vx_W p l e R s m args below meth c H locs r.2.2.1 r.2.2.2 Q (F0 m pc ls rest) q9)
    (hhand : ∀ (E : String) (pc h j : Nat), rz_hand M.2.2.2.2.2.2.2.1 pc E = some (h, j) → ∀ (loc : rz_L) (ad : Nat → Nat) (H : Heap) (locs : List Loc) (ls : Array Slot) (rest : List Value) (q9 : Addr) (ce : Cell) (nc ns : Nat), rz_lok ad xd ls M.2.2.1 loc → H[q9]? = some ce → ce.vm = .none → s.vm.findClass E = some ce.cls → (∀ ls' : Array Slot, rz_lok ad xd ls' M.2.2.1 (rz_upd (rz_clr loc j) j none) → W p l e R s m args below meth c H locs nc ns Q (F0 m h ls' [])) → vx_W p l e R s m args below meth c H locs nc ns Q (F0 m pc ls rest) q9) :
    ∀ (n pc : Nat) (loc : rz_L) (st : List Value) (w : rz_W) (nc ns : Nat), rz_run (rz_step X M (rz_ex X d)) n (pc, loc, st, w, nc, ns) = some r → rz_wf w → rz_lv w.length loc → rz_sv w.length st → n0 ≤ w.length → ∀ (ad : Nat → Nat), (∀ k, k < n0 → ad k = ad0 k) → ∀ (H : Heap) (locs : List Loc) (ls : Array Slot), va_P (dC, dI) vwCl (rz_ws ad xd dA w) H → va_D A (rz_ws ad xd dA w) → va_S A s.heap H locs → rz_lok ad xd ls M.2.2.1 loc → W p l e R s m args below meth c H locs nc ns Q (F0 m pc ls (st.map (rz_v ad xd))) := by
  intro n
  induction n with
  | zero => intro pc loc st w nc ns h; cases h
  | succ n ih =>
    intro pc loc st w nc ns h hw hl hs hn0 ad hag0 H locs ls hP hD hS hlo
    simp only [rz_run] at h
    cases hst : rz_step X M (rz_ex X d) (pc, loc, st, w, nc, ns) with
    | none => rw [hst] at h; cases h
    | some z =>
      rw [hst] at h
      obtain ⟨g1, g2⟩ := rz_step_keeps hst ⟨hw, hl, hs⟩ (rz_ex_wf d)
      have hcode : ∀ {i : Instr} {len : Nat}, rz_look M.2.2.2.2.2.1 pc = some (i, len) → decode M.2.1 pc = .ok (i, len) ∧ (rz_len i = len ∨ rz_isw i = true) ∧ rz_jok pc i = true := fun {i len} hq => by
        have h9 := hck _ (rz_look_mem hq)
        simp only [rz_ck, Bool.and_eq_true, decide_eq_true_eq, Bool.or_eq_true] at h9
        obtain ⟨k1, k2, k3⟩ := h9
        exact ⟨k1, k2.imp (fun q => Nat.eq_of_beq_eq_true q) id, k3⟩
      rcases rz_step_cases hst with ⟨E, hE, rfl, rfl⟩ | ⟨i, len, hcd, hc⟩
      · cases h
        exact hthr E rfl nc ns rfl rfl ad hag0 H locs ls pc hP hD hS hE hlo.2.1
      · obtain ⟨hdc, hlen0, hj⟩ := hcode hcd
        have hlen : rz_isw i = false → rz_len i = len := fun h9 => hlen0.elim id (fun q => by rw [h9] at q; cases q)
        rcases hc with ⟨st', h1, rfl⟩ | ⟨b, o, st', h1, ⟨rfl, rfl⟩ | ⟨rfl, rfl⟩⟩ | ⟨kd, j, v, h1, h2, h3, rfl⟩ | ⟨kd, j, v, r0, h1, rfl, h3, h4, rfl⟩ | ⟨j, n0, x0, rfl, h2, rfl⟩ | ⟨d0, lo, hi, offs, x0, r0, o, rfl, rfl, h3, rfl⟩ | ⟨st', h1, rfl⟩ | ⟨r0, a, e0, h1, rfl⟩ | ⟨e0, k, r0, h1, rfl⟩ | ⟨o, h1, rfl⟩ | ⟨q, kind, mid, as, r0, h1, h2, h3⟩
        · obtain ⟨⟨k1, k2, k3⟩, k4, -⟩ := g1 _ rfl
          refine rz_op_sound hx hb h1 hdc (hlen ?_) (ih _ _ _ _ _ _ h k1 k2 k3 (Nat.le_trans hn0 k4) ad hag0 H locs ls hP hD hS hlo)
          cases i <;> first | rfl | (cases h1; done)
        · obtain ⟨⟨k1, k2, k3⟩, k4, -⟩ := g1 _ rfl
          refine rz_br_sound hx hb h1 hdc (hlen ?_) hj (fun _ => ih _ _ _ _ _ _ h k1 k2 k3 (Nat.le_trans hn0 k4) ad hag0 H locs ls hP hD hS hlo) (fun q => by cases q)
          cases i <;> first | rfl | (cases h1; done)
        · obtain ⟨⟨k1, k2, k3⟩, k4, -⟩ := g1 _ rfl
          refine rz_br_sound hx hb h1 hdc (hlen ?_) hj (fun q => by cases q) (fun _ => ih _ _ _ _ _ _ h k1 k2 k3 (Nat.le_trans hn0 k4) ad hag0 H locs ls hP hD hS hlo)
          cases i <;> first | rfl | (cases h1; done)
        · obtain ⟨⟨k1, k2, k3⟩, k4, -⟩ := g1 _ rfl
          refine rz_ld_sound hx hb h1 h2 h3 hlo hdc (hlen ?_) (ih _ _ _ _ _ _ h k1 k2 k3 (Nat.le_trans hn0 k4) ad hag0 H locs ls hP hD hS hlo)
          cases i <;> first | rfl | (cases h1; done)
        · obtain ⟨⟨k1, k2, k3⟩, k4, -⟩ := g1 _ rfl
          refine rz_st_sound hx hb h1 h3 h4 hlo hdc (hlen ?_) (fun ls' hlo' => ih _ _ _ _ _ _ h k1 k2 k3 (Nat.le_trans hn0 k4) ad hag0 H locs ls' hP hD hS hlo')
          cases i <;> first | rfl | (cases h1; done)
        · obtain ⟨⟨k1, k2, k3⟩, k4, -⟩ := g1 _ rfl
          have h9 := hlen rfl
          subst h9
          exact rz_iinc_sound hx hb h2 hlo hdc (fun ls' hlo' => ih _ _ _ _ _ _ h k1 k2 k3 (Nat.le_trans hn0 k4) ad hag0 H locs ls' hP hD hS hlo')
        · obtain ⟨⟨k1, k2, k3⟩, k4, -⟩ := g1 _ rfl
          exact rz_sw_sound hx hb hdc hj h3 (ih _ _ _ _ _ _ h k1 k2 k3 (Nat.le_trans hn0 k4) ad hag0 H locs ls hP hD hS hlo)
        · obtain ⟨⟨k1, k2, k3⟩, k4, -⟩ := g1 _ rfl
          refine rz_rd_sound hx hb hts hown hK hP hS hw hX.1 h1 hdc (hlen ?_) (ih _ _ _ _ _ _ h k1 k2 k3 (Nat.le_trans hn0 k4) ad hag0 H locs ls hP hD hS hlo)
          cases i <;> first | rfl | (cases h1; done)
        · obtain ⟨⟨k1, k2, k3⟩, k4, -⟩ := g1 _ rfl
          refine rz_wr_sound hx hb hts hown hK hP hD hS hw hin h1 hdc (hlen ?_) (fun H1 locs1 p1 p2 p3 => ih _ _ _ _ _ _ h k1 k2 k3 (Nat.le_trans hn0 k4) ad hag0 H1 locs1 ls p1 p2 p3 hlo)
          cases i <;> first | rfl | (cases h1; done)
        · obtain ⟨⟨k1, k2, k3⟩, k4, -⟩ := g1 _ rfl
          have hmono := rz_run_keeps (rz_ex_wf d) n _ _ h ⟨k1, k2, k3⟩
          obtain ⟨-, -, -, m4, m5⟩ := hmono
          dsimp only at m4 m5
          refine rz_mk_sound hx hb hts hown hX.2.1 hK hP hD hS hA hw h1 hdc (hlen ?_) (Nat.le_trans m4 hRc) (Nat.le_trans m5 hRs) (fun _ q H1 p1 p2 p3 => ?_)
          · cases i <;> first | rfl | (cases h1; done)
          · have hag := rz_up_agree (n := w.length) (q := q) (ad := ad)
            have h8 := ih _ _ _ _ _ _ h k1 k2 k3 (Nat.le_trans hn0 k4) (va_up ad w.length q) (fun k hk => (hag k (Nat.lt_of_lt_of_le hk hn0)).trans (hag0 k hk)) H1 locs ls p1 p2 p3 (rz_lok_agree hag hl hlo)
            rw [List.map_cons, rz_sv_agree hag (rz_mk_rv h1 hs)] at h8
            have e1 : rz_v (va_up ad w.length q) xd (.ref w.length) = .ref q := by
              show Value.ref (va_up ad w.length q w.length) = Value.ref q
              unfold va_up
              rw [if_pos rfl]
            rw [e1] at h8
            exact h8
        · cases h
          refine hret o rfl ad hag0 H locs ls pc i len st hP hD hS h1 hdc (hlen ?_)
          cases i <;> first | rfl | (cases h1; done)
        · have hl3 := rz_calen h1
          have hi3 : rz_isw i = false := by cases i <;> first | rfl | (cases h1; done)
          have hlen3 := hlen hi3
          rcases h3 with ⟨rfl, rfl⟩ | ⟨h9, o, w', c', s', h4, h5⟩
          · -- Object's constructor
            obtain ⟨⟨k1, k2, k3⟩, k4, -⟩ := g1 _ rfl
            obtain ⟨n1, rc, hn, hq, hste, hln, hcat, hkind⟩ := rz_go0_inv h2
            rcases cfa (rz_look_mem hq) with ⟨-, f1, f2, f3, f4⟩ | ⟨M', -, hf⟩
            · have hr : ∃ (hh : Nat), as = [.ref hh] ∧ q.1 = 2 := by
                rcases hkind with h | ⟨hh, as0, h1, h | h⟩
                · omega
                · omega
                · subst h1
                  dsimp only at f4
                  have : as0 = [] := by
                    cases as0 with
                    | nil => rfl
                    | cons a t => simp only [List.length_cons] at hln; omega
                  subst this
                  exact ⟨hh, rfl, h.2⟩
              obtain ⟨hh, rfl, h0⟩ := hr
              rw [rz_ca2 h1 h0] at hdc
              rw [hl3] at hlen3
              subst hlen3
              subst hste
              have hcat' : ((r0.map (rz_v ad xd)).map fun v => v.category).sum ≤ 8 := by rw [rz_cats_map]; exact hcat
              refine W.objInit (a := ad hh) (rest := r0.map (rz_v ad xd)) hx hb hown (hts _ f1) (hts _ f2) (hts _ f3) rfl (by rw [hml]; exact hlo.2.1) rfl hdc (by omega) ?_ (ih _ _ _ _ _ _ h k1 k2 k3 (Nat.le_trans hn0 k4) ad hag0 H locs ls hP hD hS hlo)
              show 2 * 0 + _ + 12 ≤ R.locals
              omega
            · dsimp only at hf
              rcases hf with ⟨hk, -⟩ | ⟨hk, -⟩ | ⟨hk, -⟩ | ⟨hk, -⟩ | ⟨hk, -⟩ | ⟨hk, -⟩ <;> cases hk
          · obtain ⟨a1, a2⟩ := rz_go0_rv h2 hs
            obtain ⟨b1, b2, b3⟩ := rz_ex_wf d _ _ _ _ _ _ _ h4 hw a1
            have hmf : ∀ M', rz_ms[mid]? = some M' → rz_mf M' := fun M' hM' => hmfa M' (List.mem_of_getElem? hM')
            have hcs : nc + c' ≤ r.2.2.1 ∧ ns + s' ≤ r.2.2.2 := by
              rcases h5 with ⟨rfl, rfl⟩ | ⟨v, rfl, rfl⟩ | ⟨E, rfl, ⟨h0, j, -, rfl⟩ | ⟨-, -, rfl⟩⟩
              · have hmono := rz_run_keeps (rz_ex_wf d) n _ _ h (g1 _ rfl).1
                exact ⟨hmono.2.2.2.1, hmono.2.2.2.2⟩
              · have hmono := rz_run_keeps (rz_ex_wf d) n _ _ h (g1 _ rfl).1
                exact ⟨hmono.2.2.2.1, hmono.2.2.2.2⟩
              · have hmono := rz_run_keeps (rz_ex_wf d) n _ _ h (g1 _ rfl).1
                exact ⟨hmono.2.2.2.1, hmono.2.2.2.2⟩
              · cases h; exact ⟨Nat.le_refl _, Nat.le_refl _⟩
            have hrun := rz_call_run (e := e) (below := below) (meth := meth) (nL := M.2.2.1) hx hb hml hown hts hX hK hP hD hS hA hlo.2.1 h1 h2 h9 hdc hlen3 hmf (hcon _ _ _ _ _ _ _ h4 hw a1) hRf hRl ⟨Nat.le_trans hcs.1 hRc, Nat.le_trans hcs.2 hRs⟩
            refine rz_call_k hrun hS (rz_free hD hS hA) (fun v hv ad' H1 locs1 p0 p1 p2 p3 => ?_) (fun E hE ad' H1 locs1 q9 ce p0 p1 p2 p3 p4 p5 p6 => ?_)
            · rw [hl3] at hlen3
              subst hlen3
              rcases h5 with ⟨rfl, rfl⟩ | ⟨v', rfl, rfl⟩ | ⟨E, rfl, -⟩
              · cases hv
                obtain ⟨⟨k1, k2, k3⟩, k4, -⟩ := g1 _ rfl
                have h8 := ih _ _ _ _ _ _ h k1 k2 k3 (Nat.le_trans hn0 k4) ad' (fun k hk => (p0 k (Nat.lt_of_lt_of_le hk hn0)).trans (hag0 k hk)) H1 locs1 ls p1 p2 p3 (rz_lok_agree p0 hl hlo)
                rw [rz_sv_agree p0 a2] at h8
                exact h8
              · cases hv
                obtain ⟨⟨k1, k2, k3⟩, k4, -⟩ := g1 _ rfl
                have h8 := ih _ _ _ _ _ _ h k1 k2 k3 (Nat.le_trans hn0 k4) ad' (fun k hk => (p0 k (Nat.lt_of_lt_of_le hk hn0)).trans (hag0 k hk)) H1 locs1 ls p1 p2 p3 (rz_lok_agree p0 hl hlo)
                rw [List.map_cons, rz_sv_agree p0 a2] at h8
                exact h8
              · cases hv
            · rcases h5 with ⟨rfl, rfl⟩ | ⟨v', rfl, rfl⟩ | ⟨E', rfl, ⟨h0, j, h7, rfl⟩ | ⟨h7, h77, rfl⟩⟩
              · cases hE
              · cases hE
              · cases hE
                obtain ⟨⟨k1, k2, k3⟩, k4, -⟩ := g1 _ rfl
                exact hhand E pc h0 j h7 loc ad' H1 locs1 ls _ q9 ce _ _ (rz_lok_agree p0 hl hlo) p4 p5 p6 (fun ls' hlo' => ih _ _ _ _ _ _ h k1 k2 k3 (Nat.le_trans hn0 k4) ad' (fun k hk => (p0 k (Nat.lt_of_lt_of_le hk hn0)).trans (hag0 k hk)) H1 locs1 ls' p1 p2 p3 hlo')
              · cases hE
                cases h
                exact hout E rfl ad' (fun k hk => (p0 k (Nat.lt_of_lt_of_le hk hn0)).trans (hag0 k hk)) H1 locs1 ls pc _ q9 ce p1 p2 p3 p4 p5 p6 h7 h77
end RZM
