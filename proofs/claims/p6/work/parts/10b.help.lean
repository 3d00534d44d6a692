/-! The law's helpers: what the class throws is caught. -/
/-- a call that comes back with some int -/
def QN (g : GG) (HB : Heap) (h' : Hp) : Array Value → State → Outcome → State → Prop := fun _ _ oc t => (∃ n : Int32, oc = .returned (some (.int n))) ∧ Rep g HB h' t.heap []
def mdWH (y : MethodName) (cy : ByteArray) (ml : Nat) (hh : List (Nat × Nat × Nat × Nat)) : List Cond := .codeWith y cy ml (some .int) hh :: wsG
def EvH (l : Launch) (y : MethodName) (cy : ByteArray) (ml : Nat) (hh : List (Nat × Nat × Nat × Nat)) (fr lo : Nat) (av : List V) (h h' : Hp) (mc ms : Nat) : Prop := ∀ (g : GG) (HB : Heap), Met l y (mdWH y cy ml hh) { frames := fr, cells := mc, slots := ms, locals := lo } (PT_ g HB av h) (QN g HB h') mc ms (hiA g)
theorem evh_of {l : Launch} {y : MethodName} {cy : ByteArray} {ml : Nat} {hh : List (Nat × Nat × Nat × Nat)} {fr lo : Nat} {av : List V} {h : Hp} {F : Option V → Hp → Nat → Nat → Prop} (hp : plainName y.cls = true) (hl0 : slen av ≤ ml)
    (k : To l (cy, ml, y.cls, y.name, some .int, fr, lo) (0, argsA 0 av, [], h, 0, 0) F) (hF : ∀ r h' k z, F r h' k z → ∃ x : Int, r = some (.inl x)) : ∃ (r : Option V) (h' : Hp) (mc ms : Nat), F r h' mc ms ∧ EvH l y cy ml hh fr lo av h h' mc ms := by
  obtain ⟨r, h', mc, ms, hFr, hE⟩ := k
  refine ⟨r, h', mc, ms, hFr, fun g HB => ?_⟩
  obtain ⟨x, rfl⟩ := hF _ _ _ _ hFr
  refine va_MetW (cc := cy) (maxL := ml) (ret := some .int) (hh := hh) hp rfl ?_
  intro p e s m args below meth c s₁ B hml hv
  obtain ⟨⟨rfl, hR0, hKA⟩, hT⟩ := hv
  have hts0 := atoms_spec (ws := mdWH y cy ml hh) B.pre
  have hC : Cx g HB p s m (av.map (dv g)).toArray meth c (cy, ml, y.cls, y.name, some .int, fr, lo) :=
    ⟨⟨B.exec, B.bytes, hml, findClass_of_methodNamed B.named, fun w hw => hts0 w (List.mem_cons_of_mem _ hw)⟩, hKA, (name_of_methodNamed B.named B.method).1, B.returns, B.notSynchronized⟩
  have hle : (lg_sl (av.map (dv g))).length ≤ ml := by rw [slen_eq]; exact hl0
  have hl := lv_entry (av.map (dv g)) hle
  rw [lg_entry_eq]
  generalize (lg_sl (av.map (dv g)) ++ List.replicate (ml - (lg_sl (av.map (dv g))).length) Slot.unset).toArray = ls at hl ⊢
  rw [← argsA_eq] at hl
  have w := hE.2 g HB p e (headSpec (mdWH y cy ml hh) { frames := fr, cells := mc, slots := ms, locals := lo }).room s m _ below meth c s.heap [] ls hC (Nat.le_refl fr) (Nat.le_refl lo) (Nat.le_refl mc) (Nat.le_refl ms) hR0 hl
  intro T hT0 X
  obtain ⟨t, a1, o, b1, b2, ⟨b3, b4⟩, b5⟩ := w T hT0 X
  exact ⟨t, a1, o, b1, b2, ⟨⟨Int32.ofInt x, b3⟩, b4⟩, b5⟩
section CAT
variable {p : Program} {l : Launch} {e : Env} {R : Room} {s : State} {m : MethodId} {args : Array Value} {below : List Frame} {meth : Method} {c : Code} {H : Heap} {locs : List Loc} {cells slots : Nat} {Q : State → Prop}
theorem castable_of {E nm : String} {c0 t0 : ClassId} (h1 : s.vm.findClass E = some c0) (h2 : s.vm.findClass nm = some t0) (h3 : s.vm.assignable c0 t0 = true) : (Cond.castable E nm).before args s = true := by
  simp [Cond.before, Cond.holds, Cond.value, h1, h2, h3]
/-- one of the handlers catches -/
theorem catch_any {own : String} {E : String} {ce : Cell} {q pc : Nat} {ls : Array Slot} {rest : List Value} (nmo : Nat → String) (hown : s.vm.findClass own = some m.cls) (hcell : H[q]? = some ce) (hv : ce.vm = .none) (hcl : s.vm.findClass E = some ce.cls) :
    ∀ (suf pre : List ExceptionTableEntry), c.exceptionTable.toList = pre ++ suf → (∀ z ∈ pre, covers z pc = false ∨ (z.catchType ≠ 0 ∧ ∃ nm : String, (Cond.classLink own z.catchType nm).before args s = true ∧ va_Nc E nm s)) →
      (∀ z ∈ suf, covers z pc = true ∧ z.catchType ≠ 0 ∧ (Cond.classLink own z.catchType (nmo z.catchType)).before args s = true ∧ (∃ c9, s.vm.findClass (nmo z.catchType) = some c9) ∧ W p l e R s m args below meth c H locs cells slots Q (F0 m z.handlerPc ls [.ref q])) →
      (∃ z ∈ suf, (Cond.castable E (nmo z.catchType)).before args s = true) → vx_W p l e R s m args below meth c H locs cells slots Q (F0 m pc ls rest) q
  | [], pre, _, _, _, h => by
    obtain ⟨z, hz, -⟩ := h
    cases hz
  | x :: suf, pre, hs, hpre, hsuf, hw => by
    obtain ⟨x1, x2, x3, ⟨c9, x4⟩, x5⟩ := hsuf x List.mem_cons_self
    by_cases hc : (Cond.castable E (nmo x.catchType)).before args s = true
    · exact vx_catch hown pre x suf hs hpre x1 x2 x3 hc hcell hv hcl x5
    · refine catch_any nmo hown hcell hv hcl suf (pre ++ [x]) (by rw [hs, List.append_assoc]; rfl) (fun z hz => ?_) (fun z hz => hsuf z (List.mem_cons_of_mem _ hz)) ?_
      · rcases List.mem_append.mp hz with hz | hz
        · exact hpre z hz
        · cases List.mem_singleton.mp hz
          refine Or.inr ⟨x2, _, x3, ce.cls, c9, hcl, x4, ?_⟩
          cases ha : s.vm.assignable ce.cls c9 with
          | false => rfl
          | true => exact absurd (castable_of hcl x4 ha) hc
      · obtain ⟨z, hz, hz2⟩ := hw
        rcases List.mem_cons.mp hz with rfl | hz
        · exact absurd hz2 hc
        · exact ⟨z, hz, hz2⟩
end CAT
/-- a handler answers some int -/
def HOK (l : Launch) (cy : ByteArray) (ml hpc : Nat) : Prop := ∀ (p : Program) (e : Env) (R : Room) (s : State) (m : MethodId) (args : Array Value) (below : List Frame) (meth : Method) (c : Code) (H : Heap) (locs : List Loc) (cells slots : Nat) (Q : State → Prop) (ls : Array Slot) (lv : List (Nat × Value)) (q : Nat), p.tables.exec = Jvm.exec → c.code = cy → lv_has ls ml lv →
  (∀ (n : Int32) (pcR : Nat) (ls2 : Array Slot), decode cy pcR = .ok (.ireturn, 1) → W p l e R s m args below meth c H locs cells slots Q (F0 m pcR ls2 [.int n])) → W p l e R s m args below meth c H locs cells slots Q (F0 m hpc ls [.ref q])
def nmo (i : Nat) : String := match i with
  | 13 => ISE
  | 19 => IOB
  | _ => IAE
/-- a handler of the law: which words tell its class -/
def hent (l : Launch) (cy : ByteArray) (ml pcC : Nat) (z : ExceptionTableEntry) : Prop := covers z pcC = true ∧ z.catchType ≠ 0 ∧ Cond.classLink RL z.catchType (nmo z.catchType) ∈ wsG ∧ Cond.castable (nmo z.catchType) (nmo z.catchType) ∈ nwL ∧ HOK l cy ml z.handlerPc
theorem evh_thr {l : Launch} {y : MethodName} {cy : ByteArray} {ml : Nat} {hh : List (Nat × Nat × Nat × Nat)} {fr lo : Nat} {av : List V} {h : Hp} (hp : plainName y.cls = true) (hown : y.cls = RL) (hl0 : slen av ≤ ml) {pcC : Nat} {L2 : LL} {st2 : List V} {h1 : Hp} {k2 z2 : Nat}
    (hs : Sx_ l (cy, ml, y.cls, y.name, some .int, fr, lo) (0, argsA 0 av, [], h, 0, 0) (pcC, L2, st2, h1, k2, z2)) {dx : MD} {npx idx frx lox a : Nat} {as r : List V} (hdx : MOK dx npx) (hclx : dx.1.cls = "MailArchive") (g1 : Cond.methodLink RL idx dx.1 ∈ wsG) (g2 : Cond.instanceMethod dx.1 ∈ wsG) (g3 : Cond.selects "MailArchive" dx.1 dx.1 ∈ wsG) (g4 : Cond.initialized "MailArchive" ∈ wsG)
    (hd : decode cy pcC = .ok (.invokevirtual idx, 3)) (hpop : popN (npx + 1) st2 [] = some (.inr (.inr a) :: as, r)) (ha : h1.2.1 a = some (.inr 9)) (h8 : slen r ≤ 8) (hfr : frx + 1 ≤ fr) (hlo : lox + (dx.2.2.1 + 19) ≤ lo) {E9 : String} {h2 : Hp} {mc ms : Nat} (hmx : EvX l dx frx lox (.inr (.inr a) :: as) h1 E9 h2 mc ms)
    (htab : ∀ z ∈ tableOf hh, hent l cy ml pcC z) (hw : ∃ z ∈ tableOf hh, nmo z.catchType = E9) : EvH l y cy ml hh fr lo av h h2 (k2 + mc) (z2 + ms) := by
  intro g HB
  refine va_MetW (cc := cy) (maxL := ml) (ret := some .int) (hh := hh) hp rfl ?_
  intro p e s m args below meth c s₁ B hml hv
  obtain ⟨⟨rfl, hR0, hKA⟩, hT⟩ := hv
  have hts0 := atoms_spec (ws := mdWH y cy ml hh) B.pre
  have hfc := findClass_of_methodNamed B.named
  have hts : ∀ w ∈ wsG, w.before (av.map (dv g)).toArray s = true := fun w hw => hts0 w (List.mem_cons_of_mem _ hw)
  have hC : Cx g HB p s m (av.map (dv g)).toArray meth c (cy, ml, y.cls, y.name, some .int, fr, lo) :=
    ⟨⟨B.exec, B.bytes, hml, hfc, hts⟩, hKA, (name_of_methodNamed B.named B.method).1, B.returns, B.notSynchronized⟩
  have hle : (lg_sl (av.map (dv g))).length ≤ ml := by rw [slen_eq]; exact hl0
  have hl := lv_entry (av.map (dv g)) hle
  rw [lg_entry_eq]
  generalize (lg_sl (av.map (dv g)) ++ List.replicate (ml - (lg_sl (av.map (dv g))).length) Slot.unset).toArray = ls at hl ⊢
  rw [← argsA_eq] at hl
  refine hs.2 g HB p e (headSpec (mdWH y cy ml hh) { frames := fr, cells := k2 + mc, slots := z2 + ms, locals := lo }).room s m _ below meth c _ s.heap [] ls hC (Nat.le_refl fr) (Nat.le_refl lo) (Nat.le_add_right k2 mc) (Nat.le_add_right z2 ms) hR0 hl (fun H1 locs1 ls1 hR1 hl1 => ?_)
  obtain ⟨hst, hln⟩ := popN_st (g := g) hpop
  rw [hown] at hfc
  have ea : dv g (.inr (.inr a)) = .ref (g.1 + a) := hR1.rv ha
  have hcC : vwCl[9]? = some (RX11, TX11, 17) := rfl
  have hG : GoodIn wsG (wsV RL idx "MailArchive" dx.1 (mdW dx)) := fun w hw => by
    unfold wsV at hw
    rcases List.mem_append.mp hw with hw | hw
    · simp only [List.mem_cons, List.not_mem_nil, or_false] at hw
      rcases hw with rfl | rfl | rfl | rfl
      · exact wsG_good _ g1
      · exact wsG_good _ g2
      · exact wsG_good _ g3
      · exact wsG_good _ g4
    · exact mdW_good hdx.1 w hw
  have cw := cwV (R := { frames := fr, cells := k2 + mc, slots := z2 + ms, locals := lo }) (mc := mc) (ms := ms) (maxL := dx.2.2.1) (ret := dx.2.2.2) (bytes := dx.2.1) (ws' := wsG) (rm := { frames := frx, cells := mc, slots := ms, locals := lox }) npx hts hG rfl rfl rfl ⟨hclx, hdx.2⟩ ⟨hfr, by show 8 + (dx.2.2.1 + 11) + lox ≤ lo; omega⟩
  rw [List.map_cons, ea, List.reverse_cons, List.append_assoc] at hst
  have hpre : ∀ U : State, U.heap = H1 → s.WarmedH U.vm → PT_ g HB (.inr (.inr a) :: as) h1 ((Value.ref (g.1 + a)) :: as.map (dv g)).toArray U := fun U hU hW => ⟨by
    have h9 := pre_of (av := .inr (.inr a) :: as) hKA hR1 U hU hW
    rw [List.map_cons, ea] at h9
    exact h9, hT.warm hW⟩
  have hrun2 := vx_runV (l := l) (p := p) (e := e) (below := below) (meth := meth) (locs := locs1) (cells := k2) (slots := z2) (R := { frames := fr, cells := k2 + mc, slots := z2 + ms, locals := lo }) (g := F0 m pcC ls1 (st2.map (dv g))) (C := "MailArchive") (b := g.1 + a) (As := as.map (dv g)) (rest := r.map (dv g)) ⟨B.exec, B.bytes, hml, hfc, hts⟩ (hmx g HB) cw ⟨PT_.blind _ _ _ _, va_recv (q0 := 0) hKA.1 (va_P1 (hR1.obj ha)) hcC rfl, hpre⟩ rfl (Nat.succ.inj hln) hl1.1 hst (room8 g h8) hd ⟨Nat.le_refl _, Nat.le_refl _⟩
  intro T hT0 X
  rcases hrun2 T hT0 X with ⟨v, st₀, t, T2, L, h0, X2, hL, e1, e2, hq0, st⟩ | ⟨q9, st₀, t, T2, L, E, ce, h0, X2, hL, e1, e2, hxt, hce, hcv, hcl, st⟩
  · exact hq0.elim
  · obtain ⟨rfl, hRj⟩ := hxt
    have key := catch_any (l := l) (own := RL) (E := E) (ce := ce) (q := q9) (H := T2.heap) (locs := locs1 ++ L) (cells := k2 + mc) (slots := z2 + ms) (pc := pcC) (ls := ls1) (rest := r.map (dv g)) (below := below) (meth := meth) (e := e) (p := p) (c := c) (s := s) (m := m) (args := (av.map (dv g)).toArray)
      (R := (headSpec (mdWH y cy ml hh) { frames := fr, cells := k2 + mc, slots := z2 + ms, locals := lo }).room)
      (Q := MQ below (QN g HB h2) (av.map (dv g)).toArray s (k2 + mc) (z2 + ms) (hiA g)) nmo hfc (by rw [e1]; exact hce) hcv hcl (tableOf hh) [] (vx_table (x := y) B (hts0 _ List.mem_cons_self)) (fun z hz => by cases hz) (fun z hz => by
        obtain ⟨z1, z2, z3, z4, z5⟩ := htab z hz
        refine ⟨z1, z2, hts _ z3, ?_, z5 p e _ s m _ below meth c _ _ _ _ _ ls1 _ q9 B.exec B.bytes hl1 (fun n pcR ls2 hde => W.iret B.exec B.bytes B.returns (fun t9 ht9 _ => ⟨⟨n, rfl⟩, by rw [ht9, e1]; exact hRj⟩) (fun w hw => by
          rcases List.mem_append.mp hw with hw | hw
          · exact hR1.2.2.2.2 w hw
          · exact hL w hw) hde B.notSynchronized)⟩
        obtain ⟨c9, t9, f1, f2, f3⟩ := Cond.castable_spec (va_Nw.use (A := (av.map (dv g)).toArray) rfl (hKA.2.1 _ z4))
        exact ⟨c9, f1⟩) (by
        obtain ⟨z, hz, ez⟩ := hw
        obtain ⟨z1, z2, z3, z4, z5⟩ := htab z hz
        rw [ez] at z4
        exact ⟨z, hz, by rw [ez]; exact va_Nw.use rfl (hKA.2.1 _ z4)⟩)
    obtain ⟨t2, a1, b1⟩ := key T2 rfl X2
    exact ⟨t2, st.trans a1, b1⟩
