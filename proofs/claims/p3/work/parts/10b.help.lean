/-! The law's helpers: what the class throws is caught. -/
/-- a call that comes back with some int -/
def QN (g : GG) (HB : Heap) (h' : Hp) : Array Value → State → Outcome → State → Prop := fun _ _ oc t => (∃ n : Int32, oc = .returned (some (.int n))) ∧ Rep g HB h' t.heap []
def mdWH (y : MethodName) (cy : ByteArray) (ml : Nat) (hh : List (Nat × Nat × Nat × Nat)) : List Cond := .codeWith y cy ml (some .int) hh :: wsG
def EvH (l : Launch) (y : MethodName) (cy : ByteArray) (ml : Nat) (hh : List (Nat × Nat × Nat × Nat)) (fr lo : Nat) (av : List V) (h h' : Hp) (mc ms : Nat) : Prop := ∀ (g : GG) (HB : Heap), Met l y (mdWH y cy ml hh) { frames := fr, cells := mc, slots := ms, locals := lo } (PT_ g HB av h) (QN g HB h') mc ms (hiA g)
theorem evh_of {l : Launch} {y : MethodName} {cy : ByteArray} {ml : Nat} {hh : List (Nat × Nat × Nat × Nat)} {fr lo : Nat} {av : List V} {h : Hp} {F : Option V → Hp → Nat → Nat → Prop} (hp : plainName y.cls = true) (hl0 : slen av ≤ ml)
    (k : To l (cy, ml, y.cls, y.name, some .int, fr, lo) (0, argsA 0 av, [], h, 0, 0) F) (hF : ∀ r h' k z, F r h' k z → ∃ x : Int, r = some (.inl x)) : ∃ (r : Option V) (h' : Hp) (mc ms : Nat), F r h' mc ms ∧ EvH l y cy ml hh fr lo av h h' mc ms := by
  obtain ⟨r, h', mc, ms, hFr, hE⟩ := k
  refine ⟨r, h', mc, ms, hFr, fun g HB => ?_⟩
  obtain ⟨x, rfl⟩ := hF _ _ _ _ hFr
  refine va_MetW (cc := cy) (maxL := ml) (ret := some .int) (hh := hh) hp rfl ?_
  intro p e s m args below meth c s₁ B hml hv
  obtain ⟨⟨rfl, hR0, hKA⟩, hT⟩ := hv
  have hts0 := atoms_spec (ws := mdWH y cy ml hh) B.pre
  have hC : Cx g HB p s m (av.map (dv g)).toArray meth c (cy, ml, y.cls, y.name, some .int, fr, lo) :=
    ⟨⟨B.exec, B.bytes, hml, findClass_of_methodNamed B.named, fun w hw => hts0 w (List.mem_cons_of_mem _ hw)⟩, hKA, (name_of_methodNamed B.named B.method).1, B.returns, B.notSynchronized⟩
  have hle : (lg_sl (av.map (dv g))).length ≤ ml := by rw [slen_eq]; exact hl0
  have hl := lv_entry (av.map (dv g)) hle
  rw [lg_entry_eq]
  generalize (lg_sl (av.map (dv g)) ++ List.replicate (ml - (lg_sl (av.map (dv g))).length) Slot.unset).toArray = ls at hl ⊢
  rw [← argsA_eq] at hl
  have w := hE.2 g HB p e (headSpec (mdWH y cy ml hh) { frames := fr, cells := mc, slots := ms, locals := lo }).room s m _ below meth c s.heap [] ls hC (Nat.le_refl fr) (Nat.le_refl lo) (Nat.le_refl mc) (Nat.le_refl ms) hR0 hl
  intro T hT0 X
  obtain ⟨t, a1, o, b1, b2, ⟨b3, b4⟩, b5⟩ := w T hT0 X
  exact ⟨t, a1, o, b1, b2, ⟨⟨Int32.ofInt x, b3⟩, b4⟩, b5⟩
section CAT
variable {p : Program} {l : Launch} {e : Env} {R : Room} {s : State} {m : MethodId} {args : Array Value} {below : List Frame} {meth : Method} {c : Code} {H : Heap} {locs : List Loc} {cells slots : Nat} {Q : State → Prop}
theorem castable_of {E nm : String} {c0 t0 : ClassId} (h1 : s.vm.findClass E = some c0) (h2 : s.vm.findClass nm = some t0) (h3 : s.vm.assignable c0 t0 = true) : (Cond.castable E nm).before args s = true := by
  simp [Cond.before, Cond.holds, Cond.value, h1, h2, h3]
/-- one of the handlers catches -/
theorem catch_any {own : String} {E : String} {ce : Cell} {q pc : Nat} {ls : Array Slot} {rest : List Value} (hown : s.vm.findClass own = some m.cls) (hcell : H[q]? = some ce) (hv : ce.vm = .none) (hcl : s.vm.findClass E = some ce.cls) :
    ∀ (suf pre : List ExceptionTableEntry), c.exceptionTable.toList = pre ++ suf → (∀ z ∈ pre, covers z pc = false ∨ (z.catchType ≠ 0 ∧ ∃ nm : String, (Cond.classLink own z.catchType nm).before args s = true ∧ va_Nc E nm s)) →
      (∀ z ∈ suf, covers z pc = true ∧ z.catchType ≠ 0 ∧ (∃ nm : String, (Cond.classLink own z.catchType nm).before args s = true ∧ ∃ c9, s.vm.findClass nm = some c9) ∧ W p l e R s m args below meth c H locs cells slots Q (F0 m z.handlerPc ls [.ref q])) →
      (∃ z ∈ suf, ∀ nm : String, (Cond.classLink own z.catchType nm).before args s = true → (Cond.castable E nm).before args s = true) → vx_W p l e R s m args below meth c H locs cells slots Q (F0 m pc ls rest) q
  | [], pre, _, _, _, h => by
    obtain ⟨z, hz, -⟩ := h
    cases hz
  | x :: suf, pre, hs, hpre, hsuf, hw => by
    obtain ⟨x1, x2, ⟨nm, x3, c9, x4⟩, x5⟩ := hsuf x List.mem_cons_self
    by_cases hc : (Cond.castable E nm).before args s = true
    · exact vx_catch hown pre x suf hs hpre x1 x2 x3 hc hcell hv hcl x5
    · refine catch_any hown hcell hv hcl suf (pre ++ [x]) (by rw [hs, List.append_assoc]; rfl) (fun z hz => ?_) (fun z hz => hsuf z (List.mem_cons_of_mem _ hz)) ?_
      · rcases List.mem_append.mp hz with hz | hz
        · exact hpre z hz
        · cases List.mem_singleton.mp hz
          refine Or.inr ⟨x2, nm, x3, ce.cls, c9, hcl, x4, ?_⟩
          cases ha : s.vm.assignable ce.cls c9 with
          | false => rfl
          | true => exact absurd (castable_of hcl x4 ha) hc
      · obtain ⟨z, hz, hz2⟩ := hw
        rcases List.mem_cons.mp hz with rfl | hz
        · exact absurd (hz2 nm x3) hc
        · exact ⟨z, hz, hz2⟩
end CAT
