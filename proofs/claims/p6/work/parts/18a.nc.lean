/-! Which handler of the law's helper catches. -/
/-- classes that can't be cast to each other -/
def NC (U : State) : Prop := va_Nc IAE IOB U ∧ va_Nc ISE IOB U ∧ va_Nc ISE IAE U
theorem NC.warm {s U : State} (hW : s.WarmedH U.vm) (h : NC s) : NC U := ⟨h.1.moved hW.alike, h.2.1.moved hW.alike, h.2.2.moved hW.alike⟩
theorem NC.same {s U : State} (hv : U.vm = s.vm) (h : NC s) : NC U := ⟨h.1.moved (by rw [hv]; exact Vm.Alike.refl _), h.2.1.moved (by rw [hv]; exact Vm.Alike.refl _), h.2.2.moved (by rw [hv]; exact Vm.Alike.refl _)⟩
def PTN (g : GG) (HB : Heap) (av : List V) (h : Hp) : Array Value → State → Prop := fun a U => PT_ g HB av h a U ∧ NC U
theorem PTN.blind (g : GG) (HB : Heap) (av : List V) (h : Hp) : FrameBlind (PTN g HB av h) := by
  intro a U fr mk q
  exact ⟨PT_.blind g HB av h a U fr mk q.1, NC.same (s := U) (U := U.calling fr mk a) rfl q.2⟩
def QE (g : GG) (HB : Heap) (n0 : Int) (h' : Hp) : Array Value → State → Outcome → State → Prop := fun _ _ oc t => oc = .returned (some (.int (Int32.ofInt n0))) ∧ Rep g HB h' t.heap []
def EvN (l : Launch) (y : MethodName) (cy : ByteArray) (ml : Nat) (hh : List (Nat × Nat × Nat × Nat)) (fr lo : Nat) (av : List V) (h : Hp) (n0 : Int) (h' : Hp) (mc ms : Nat) : Prop := ∀ (g : GG) (HB : Heap), Met l y (mdWH y cy ml hh) { frames := fr, cells := mc, slots := ms, locals := lo } (PTN g HB av h) (QE g HB n0 h') mc ms (hiA g)
theorem evn_of {l : Launch} {y : MethodName} {cy : ByteArray} {ml : Nat} {hh : List (Nat × Nat × Nat × Nat)} {fr lo : Nat} {av : List V} {h : Hp} {F : Option V → Hp → Nat → Nat → Prop} (hp : plainName y.cls = true) (hl0 : slen av ≤ ml)
    (k : To l (cy, ml, y.cls, y.name, some .int, fr, lo) (0, argsA 0 av, [], h, 0, 0) F) {n0 : Int} (hF : ∀ r h' k z, F r h' k z → r = some (.inl n0)) : ∃ (r : Option V) (h' : Hp) (mc ms : Nat), F r h' mc ms ∧ EvN l y cy ml hh fr lo av h n0 h' mc ms := by
  obtain ⟨r, h', mc, ms, hFr, hE⟩ := k
  refine ⟨r, h', mc, ms, hFr, fun g HB => ?_⟩
  obtain rfl := hF _ _ _ _ hFr
  refine va_MetW (cc := cy) (maxL := ml) (ret := some .int) (hh := hh) hp rfl ?_
  intro p e s m args below meth c s₁ B hml hv
  obtain ⟨⟨⟨rfl, hR0, hKA⟩, hT⟩, hNC⟩ := hv
  have hts0 := atoms_spec (ws := mdWH y cy ml hh) B.pre
  have hC : Cx g HB p s m (av.map (dv g)).toArray meth c (cy, ml, y.cls, y.name, some .int, fr, lo) :=
    ⟨⟨B.exec, B.bytes, hml, findClass_of_methodNamed B.named, fun w hw => hts0 w (List.mem_cons_of_mem _ hw)⟩, hKA, (name_of_methodNamed B.named B.method).1, B.returns, B.notSynchronized⟩
  have hle : (lg_sl (av.map (dv g))).length ≤ ml := by rw [slen_eq]; exact hl0
  have hl := lv_entry (av.map (dv g)) hle
  rw [lg_entry_eq]
  generalize (lg_sl (av.map (dv g)) ++ List.replicate (ml - (lg_sl (av.map (dv g))).length) Slot.unset).toArray = ls at hl ⊢
  rw [← argsA_eq] at hl
  have w := hE.2 g HB p e (headSpec (mdWH y cy ml hh) { frames := fr, cells := mc, slots := ms, locals := lo }).room s m _ below meth c s.heap [] ls hC (Nat.le_refl fr) (Nat.le_refl lo) (Nat.le_refl mc) (Nat.le_refl ms) hR0 hl
  intro T hT0 X
  obtain ⟨t, a1, o, b1, b2, ⟨b3, b4⟩, b5⟩ := w T hT0 X
  exact ⟨t, a1, o, b1, b2, ⟨b3, b4⟩, b5⟩
def HOKv (l : Launch) (cy : ByteArray) (ml hpc : Nat) (n0 : Int) : Prop := ∀ (p : Program) (e : Env) (R : Room) (s : State) (m : MethodId) (args : Array Value) (below : List Frame) (meth : Method) (c : Code) (H : Heap) (locs : List Loc) (cells slots : Nat) (Q : State → Prop) (ls : Array Slot) (lv : List (Nat × Value)) (q : Nat), p.tables.exec = Jvm.exec → c.code = cy → lv_has ls ml lv →
  (∀ (pcR : Nat) (ls2 : Array Slot), decode cy pcR = .ok (.ireturn, 1) → W p l e R s m args below meth c H locs cells slots Q (F0 m pcR ls2 [.int (Int32.ofInt n0)])) → W p l e R s m args below meth c H locs cells slots Q (F0 m hpc ls [.ref q])
def hentv (l : Launch) (cy : ByteArray) (ml pcC : Nat) (n0 : Int) (z : ExceptionTableEntry) : Prop := covers z pcC = true ∧ z.catchType ≠ 0 ∧ Cond.classLink RL z.catchType (nmo z.catchType) ∈ wsG ∧ Cond.castable (nmo z.catchType) (nmo z.catchType) ∈ nwL ∧ HOKv l cy ml z.handlerPc n0
theorem evn_thr {l : Launch} {y : MethodName} {cy : ByteArray} {ml : Nat} {hh : List (Nat × Nat × Nat × Nat)} {fr lo : Nat} {av : List V} {h : Hp} (hp : plainName y.cls = true) (hown : y.cls = RL) (hl0 : slen av ≤ ml) {pcC : Nat} {L2 : LL} {st2 : List V} {h1 : Hp} {k2 z2 : Nat}
    (hs : Sx_ l (cy, ml, y.cls, y.name, some .int, fr, lo) (0, argsA 0 av, [], h, 0, 0) (pcC, L2, st2, h1, k2, z2)) {dx : MD} {npx idx frx lox a : Nat} {as r : List V} (hdx : MOK dx npx) (hclx : dx.1.cls = "MailArchive") (g1 : Cond.methodLink RL idx dx.1 ∈ wsG) (g2 : Cond.instanceMethod dx.1 ∈ wsG) (g3 : Cond.selects "MailArchive" dx.1 dx.1 ∈ wsG) (g4 : Cond.initialized "MailArchive" ∈ wsG)
    (hd : decode cy pcC = .ok (.invokevirtual idx, 3)) (hpop : popN (npx + 1) st2 [] = some (.inr (.inr a) :: as, r)) (ha : h1.2.1 a = some (.inr 9)) (h8 : slen r ≤ 8) (hfr : frx + 1 ≤ fr) (hlo : lox + (dx.2.2.1 + 19) ≤ lo) {E9 : String} {h2 : Hp} {mc ms : Nat} (hmx : EvX l dx frx lox (.inr (.inr a) :: as) h1 E9 h2 mc ms)
    {n0 : Int} {pre suf : List ExceptionTableEntry} {xx : ExceptionTableEntry} (hsp : tableOf hh = pre ++ xx :: suf) (hpr : ∀ z ∈ pre, z.catchType ≠ 0 ∧ Cond.classLink RL z.catchType (nmo z.catchType) ∈ wsG ∧ ∀ U : State, NC U → va_Nc E9 (nmo z.catchType) U) (hxx : hentv l cy ml pcC n0 xx) (ew : nmo xx.catchType = E9) : EvN l y cy ml hh fr lo av h n0 h2 (k2 + mc) (z2 + ms) := by
  intro g HB
  refine va_MetW (cc := cy) (maxL := ml) (ret := some .int) (hh := hh) hp rfl ?_
  intro p e s m args below meth c s₁ B hml hv
  obtain ⟨⟨⟨rfl, hR0, hKA⟩, hT⟩, hNC⟩ := hv
  have hts0 := atoms_spec (ws := mdWH y cy ml hh) B.pre
  have hfc := findClass_of_methodNamed B.named
  have hts : ∀ w ∈ wsG, w.before (av.map (dv g)).toArray s = true := fun w hw => hts0 w (List.mem_cons_of_mem _ hw)
  have hC : Cx g HB p s m (av.map (dv g)).toArray meth c (cy, ml, y.cls, y.name, some .int, fr, lo) :=
    ⟨⟨B.exec, B.bytes, hml, hfc, hts⟩, hKA, (name_of_methodNamed B.named B.method).1, B.returns, B.notSynchronized⟩
  have hle : (lg_sl (av.map (dv g))).length ≤ ml := by rw [slen_eq]; exact hl0
  have hl := lv_entry (av.map (dv g)) hle
  rw [lg_entry_eq]
  generalize (lg_sl (av.map (dv g)) ++ List.replicate (ml - (lg_sl (av.map (dv g))).length) Slot.unset).toArray = ls at hl ⊢
  rw [← argsA_eq] at hl
  refine hs.2 g HB p e (headSpec (mdWH y cy ml hh) { frames := fr, cells := k2 + mc, slots := z2 + ms, locals := lo }).room s m _ below meth c _ s.heap [] ls hC (Nat.le_refl fr) (Nat.le_refl lo) (Nat.le_add_right k2 mc) (Nat.le_add_right z2 ms) hR0 hl (fun H1 locs1 ls1 hR1 hl1 => ?_)
  obtain ⟨hst, hln⟩ := popN_st (g := g) hpop
  rw [hown] at hfc
  have ea : dv g (.inr (.inr a)) = .ref (g.1 + a) := hR1.rv ha
  have hcC : vwCl[9]? = some (RX11, TX11, 17) := rfl
  have hG : GoodIn wsG (wsV RL idx "MailArchive" dx.1 (mdW dx)) := fun w hw => by
    unfold wsV at hw
    rcases List.mem_append.mp hw with hw | hw
    · simp only [List.mem_cons, List.not_mem_nil, or_false] at hw
      rcases hw with rfl | rfl | rfl | rfl
      · exact wsG_good _ g1
      · exact wsG_good _ g2
      · exact wsG_good _ g3
      · exact wsG_good _ g4
    · exact mdW_good hdx.1 w hw
  have cw := cwV (R := { frames := fr, cells := k2 + mc, slots := z2 + ms, locals := lo }) (mc := mc) (ms := ms) (maxL := dx.2.2.1) (ret := dx.2.2.2) (bytes := dx.2.1) (ws' := wsG) (rm := { frames := frx, cells := mc, slots := ms, locals := lox }) npx hts hG rfl rfl rfl ⟨hclx, hdx.2⟩ ⟨hfr, by show 8 + (dx.2.2.1 + 11) + lox ≤ lo; omega⟩
  rw [List.map_cons, ea, List.reverse_cons, List.append_assoc] at hst
  have hpre : ∀ U : State, U.heap = H1 → s.WarmedH U.vm → PT_ g HB (.inr (.inr a) :: as) h1 ((Value.ref (g.1 + a)) :: as.map (dv g)).toArray U := fun U hU hW => ⟨by
    have h9 := pre_of (av := .inr (.inr a) :: as) hKA hR1 U hU hW
    rw [List.map_cons, ea] at h9
    exact h9, hT.warm hW⟩
  have hrun2 := vx_runV (l := l) (p := p) (e := e) (below := below) (meth := meth) (locs := locs1) (cells := k2) (slots := z2) (R := { frames := fr, cells := k2 + mc, slots := z2 + ms, locals := lo }) (g := F0 m pcC ls1 (st2.map (dv g))) (C := "MailArchive") (b := g.1 + a) (As := as.map (dv g)) (rest := r.map (dv g)) ⟨B.exec, B.bytes, hml, hfc, hts⟩ (hmx g HB) cw ⟨PT_.blind _ _ _ _, va_recv (q0 := 0) hKA.1 (va_P1 (hR1.obj ha)) hcC rfl, hpre⟩ rfl (Nat.succ.inj hln) hl1.1 hst (room8 g h8) hd ⟨Nat.le_refl _, Nat.le_refl _⟩
  intro T hT0 X
  rcases hrun2 T hT0 X with ⟨v, st₀, t, T2, L, h0, X2, hL, e1, e2, hq0, st⟩ | ⟨q9, st₀, t, T2, L, E, ce, h0, X2, hL, e1, e2, hxt, hce, hcv, hcl, st⟩
  · exact hq0.elim
  · obtain ⟨rfl, hRj⟩ := hxt
    obtain ⟨w1, w2, w3, w4, w5⟩ := hxx
    have key := vx_catch (name := nmo xx.catchType) (l := l) (own := RL) (E := E) (ce := ce) (q := q9) (H := T2.heap) (locs := locs1 ++ L) (cells := k2 + mc) (slots := z2 + ms) (pc := pcC) (ls := ls1) (rest := r.map (dv g)) (below := below) (meth := meth) (e := e) (p := p) (c := c) (s := s) (m := m) (args := (av.map (dv g)).toArray)
      (R := (headSpec (mdWH y cy ml hh) { frames := fr, cells := k2 + mc, slots := z2 + ms, locals := lo }).room)
      (Q := MQ below (QE g HB n0 h2) (av.map (dv g)).toArray s (k2 + mc) (z2 + ms) (hiA g)) hfc pre xx suf ((vx_table (x := y) B (hts0 _ List.mem_cons_self)).trans hsp) (fun z hz => Or.inr ⟨(hpr z hz).1, _, hts _ (hpr z hz).2.1, (hpr z hz).2.2 _ hNC⟩) w1 w2 (hts _ w3) (by rw [ew]; rw [ew] at w4; exact va_Nw.use rfl (hKA.2.1 _ w4)) (by rw [e1]; exact hce) hcv hcl
      (w5 p e _ s m _ below meth c _ _ _ _ _ ls1 _ q9 B.exec B.bytes hl1 (fun pcR ls2 hde => W.iret B.exec B.bytes B.returns (fun t9 ht9 _ => ⟨rfl, by rw [ht9, e1]; exact hRj⟩) (fun w hw => by
          rcases List.mem_append.mp hw with hw | hw
          · exact hR1.2.2.2.2 w hw
          · exact hL w hw) hde B.notSynchronized))
    obtain ⟨t2, a1, b1⟩ := key T2 rfl X2
    exact ⟨t2, st.trans a1, b1⟩
/-! The law's walk, once more. -/
def TXN (g : GG) (HB : Heap) (s : State) : Prop := TX g HB s ∧ NC s
/-- what the law owes: from x, with at most K cells and Z slots in all, it comes to Qf -/
def TLn (l : Launch) (E : ME) (g : GG) (HB : Heap) (K Z : Nat) (Qf : List Frame → Array Value → State → State → Prop) (x : Cfg) : Prop :=
  (x.2.2.2.2.1 ≤ K ∧ x.2.2.2.2.2 ≤ Z) ∧ ∀ (p : Program) (e : Env) (R : Room) (s : State) (m : MethodId) (args : Array Value) (below : List Frame) (meth : Method) (c : Code) (H : Heap) (locs : List Loc) (ls : Array Slot),
    Cx g HB p s m args meth c E → TXN g HB s → E.2.2.2.2.2.1 ≤ R.frames → E.2.2.2.2.2.2 ≤ R.locals → K ≤ R.cells → Z ≤ R.slots → Rep g HB x.2.2.2.1 H locs → lv_has ls E.2.1 (dL g x.2.1) →
      W p l e R s m args below meth c H locs x.2.2.2.2.1 x.2.2.2.2.2 (Qf below args s) (F0 m x.1 ls (x.2.2.1.map (dv g)))
section TLNS
variable {l : Launch} {E : ME} {g : GG} {HB : Heap} {K Z : Nat} {Qf : List Frame → Array Value → State → State → Prop} {pc : Nat} {L : LL} {st : List V} {h : Hp} {k z : Nat}
theorem TLn.gn : Gn l E (TLn l E g HB K Z Qf) := fun x y hs w => ⟨⟨Nat.le_trans hs.1.1 w.1.1, Nat.le_trans hs.1.2 w.1.2⟩, fun p e R s m args below meth c H locs ls hC hT hf hlo hk hz hR hl =>
  hs.2 g HB p e R s m args below meth c _ H locs ls hC hf hlo (Nat.le_trans w.1.1 hk) (Nat.le_trans w.1.2 hz) hR hl fun H' locs' ls' hR' hl' => w.2 p e R s m args below meth c H' locs' ls' hC hT hf hlo hk hz hR' hl'⟩
/-- an int of the script is loaded -/
theorem tln_sld {i : Int} {L0 : Nat} (hL : g.2.1 91 = L0) (hn : L0 ≤ 400) (hi : 0 ≤ i ∧ i < L0) (hd : decode E.1 pc = .ok (.iaload, 1)) (k0 : TLn l E g HB K Z Qf (pc + 1, L, .inl (sv g i.toNat) :: st, h, k, z)) : TLn l E g HB K Z Qf (pc, L, .inl i :: .inr (.inr 1000090) :: st, h, k, z) := by
  refine ⟨k0.1, fun p e R s m args below meth c H locs ls hC hT hf hlo hk hz hR hl => ?_⟩
  have kk := k0.2 p e R s m args below meth c H locs ls hC hT hf hlo hk hz hR hl
  have kk : W p l e R s m args below meth c H locs k z (Qf below args s) (F0 m (pc + 1) ls (dv g (.inl (sv g i.toNat)) :: st.map (dv g))) := kk
  rw [dv_sv] at kk
  show W p l e R s m args below meth c H locs k z (Qf below args s) (F0 m pc ls (.int (Int32.ofInt i) :: rv g (1000000 + 90) :: st.map (dv g)))
  rw [rv_out]
  obtain ⟨⟨hx, hb, hml, hown, hts⟩, hA, -⟩ := hC
  obtain ⟨cell, c1, c2, c3, c4, c5, c6, c7⟩ := hA.2.2.2.2.2.2.2.1
  have c7 : ¬ g.1 + 1 ≤ g.2.1 90 := c7
  have hin := in_of (i := i) (n := L0) hi (by omega)
  rw [hL] at c4 c6
  exact W.iald (j := Int32.ofInt i) hx hb (by rw [hR.2.1 _ (by omega)]; exact c1) c2 c3 (by
    rintro (q | q)
    · exact hin.2 q
    · rw [hin.1] at q; omega) (by rw [hin.1]; exact c6 _ (by omega)) rfl rfl hd kk
/-- the script's length -/
theorem tln_slen {L0 : Nat} (hL : g.2.1 91 = L0) (hd : decode E.1 pc = .ok (.arraylength, 1)) (k0 : TLn l E g HB K Z Qf (pc + 1, L, .inl (L0 : Int) :: st, h, k, z)) : TLn l E g HB K Z Qf (pc, L, .inr (.inr 1000090) :: st, h, k, z) := by
  refine ⟨k0.1, fun p e R s m args below meth c H locs ls hC hT hf hlo hk hz hR hl => ?_⟩
  have kk := k0.2 p e R s m args below meth c H locs ls hC hT hf hlo hk hz hR hl
  have kk : W p l e R s m args below meth c H locs k z (Qf below args s) (F0 m (pc + 1) ls (.int (Int32.ofInt (L0 : Int)) :: st.map (dv g))) := kk
  show W p l e R s m args below meth c H locs k z (Qf below args s) (F0 m pc ls (rv g (1000000 + 90) :: st.map (dv g)))
  rw [rv_out]
  obtain ⟨⟨hx, hb, hml, hown, hts⟩, hA, -⟩ := hC
  obtain ⟨cell, c1, c2, c3, c4, c5, c6, c7⟩ := hA.2.2.2.2.2.2.2.1
  have c7 : ¬ g.1 + 1 ≤ g.2.1 90 := c7
  rw [hL] at c5
  exact W.alen hx hb (by rw [hR.2.1 _ (by omega)]; exact c1) c2 c5 rfl rfl hd kk
/-- a helper is called: it comes back with some int -/
theorem tln_hlp {y : MethodName} {cy : ByteArray} {ml np idx fr lo : Nat} {hh : List (Nat × Nat × Nat × Nat)} {av r : List V} {H2 : Hp} {mc ms : Nat} (hE : EvH l y cy ml hh fr lo av h H2 mc ms) (hcw : Cond.codeWith y cy ml (some .int) hh ∈ wsG) (hd0 : y.cls ≠ "java/lang/invoke/MethodHandle" ∧ y.cls ≠ "java/lang/invoke/VarHandle" ∧ (parseMethodDescriptor y.desc).map (fun d => d.parameters.length) = some np)
    (h1 : Cond.methodLink E.2.2.1 idx y ∈ wsG) (h2 : Cond.static y ∈ wsG) (h3 : Cond.initialized y.cls ∈ wsG) (hd : decode E.1 pc = .ok (.invokestatic idx, 3)) (hp : popN np st [] = some (av, r)) (hf9 : fr + 1 ≤ E.2.2.2.2.2.1) (hl9 : lo + (ml + 19) ≤ E.2.2.2.2.2.2) (h8 : slen r ≤ 8) (hK : k + mc ≤ K) (hZ : z + ms ≤ Z)
    (k0 : ∀ n : Int, I32 n → TLn l E g HB K Z Qf (pc + 3, L, .inl n :: r, H2, k + mc, z + ms)) : TLn l E g HB K Z Qf (pc, L, st, h, k, z) := by
  refine ⟨⟨Nat.le_trans (Nat.le_add_right _ _) hK, Nat.le_trans (Nat.le_add_right _ _) hZ⟩, fun p e R s m args below meth c H locs ls hC hT hf hlo hk hz hR hl => ?_⟩
  obtain ⟨⟨hx, hb, hml, hown, hts⟩, hA, -⟩ := id hC
  obtain ⟨hst, hln⟩ := popN_st (g := g) hp
  have hG : GoodIn wsG (va_wsS E.2.2.1 idx y (mdWH y cy ml hh)) := fun w hw => by
    unfold va_wsS at hw
    rcases List.mem_append.mp hw with hw | hw
    · simp only [List.mem_cons, List.not_mem_nil, or_false] at hw
      rcases hw with rfl | rfl | rfl
      · exact wsG_good _ h1
      · exact wsG_good _ h2
      · exact wsG_good _ h3
    · rcases List.mem_cons.mp hw with rfl | hw
      · exact wsG_good _ hcw
      · exact wsG_good _ hw
  have cw := vx_cwSW (R := R) (mc := mc) (ms := ms) (maxL := ml) (ret := some .int) (bytes := cy) (hh := hh) (ws' := wsG) (rm := { frames := fr, cells := mc, slots := ms, locals := lo }) np hts hG rfl rfl rfl hd0 ⟨by show fr + 1 ≤ R.frames; omega, by show 8 + (ml + 11) + lo ≤ R.locals; omega⟩
  have hrun := vx_runSW (l := l) (p := p) (e := e) (below := below) (meth := meth) (locs := locs) (cells := k) (slots := z) (g := F0 m pc ls (st.map (dv g))) (As := av.map (dv g)) (rest := r.map (dv g)) ⟨hx, hb, hml, hown, hts⟩ (hE g HB) cw ⟨PT_.blind _ _ _ _, fun U hU hW => ⟨pre_of hA hR U hU hW, hT.1.warm hW⟩⟩ rfl hln hl.1 hst (room8 g h8) hd ⟨by omega, by omega⟩
  intro T hT0 X
  obtain ⟨v, st₀, t, T2, L2, h0, X2, hL2, e1, e2, ⟨⟨n, hv⟩, hR2⟩, stp⟩ := hrun T hT0 X
  cases hv
  have kk := (k0 n.toInt (i32_toInt _)).2 p e R s m args below meth c T2.heap (locs ++ L2) ls hC hT hf hlo hk hz (by
    rw [e1]
    exact ⟨hR2.1, hR2.2.1, hR2.2.2.1, hR2.2.2.2.1, fun q hq => by
      rcases List.mem_append.mp hq with h | h
      · exact hR.2.2.2.2 q h
      · exact hL2 q h⟩) hl
  have kk : W p l e R s m args below meth c T2.heap (locs ++ L2) (k + mc) (z + ms) (Qf below args s) (F0 m (pc + 3) ls (.int (Int32.ofInt n.toInt) :: r.map (dv g))) := kk
  rw [Int32.ofInt_toInt] at kk
  obtain ⟨t2, a1, b1⟩ := kk T2 rfl X2
  exact ⟨t2, stp t2 a1, b1⟩
theorem tln_hlpx {y : MethodName} {cy : ByteArray} {ml np idx fr lo : Nat} {hh : List (Nat × Nat × Nat × Nat)} {av r : List V} {H2 : Hp} {mc ms : Nat} {n0 : Int} (hE : EvN l y cy ml hh fr lo av h n0 H2 mc ms) (hcw : Cond.codeWith y cy ml (some .int) hh ∈ wsG) (hd0 : y.cls ≠ "java/lang/invoke/MethodHandle" ∧ y.cls ≠ "java/lang/invoke/VarHandle" ∧ (parseMethodDescriptor y.desc).map (fun d => d.parameters.length) = some np)
    (h1 : Cond.methodLink E.2.2.1 idx y ∈ wsG) (h2 : Cond.static y ∈ wsG) (h3 : Cond.initialized y.cls ∈ wsG) (hd : decode E.1 pc = .ok (.invokestatic idx, 3)) (hp : popN np st [] = some (av, r)) (hf9 : fr + 1 ≤ E.2.2.2.2.2.1) (hl9 : lo + (ml + 19) ≤ E.2.2.2.2.2.2) (h8 : slen r ≤ 8) (hK : k + mc ≤ K) (hZ : z + ms ≤ Z)
    (k0 : TLn l E g HB K Z Qf (pc + 3, L, .inl n0 :: r, H2, k + mc, z + ms)) : TLn l E g HB K Z Qf (pc, L, st, h, k, z) := by
  refine ⟨⟨Nat.le_trans (Nat.le_add_right _ _) hK, Nat.le_trans (Nat.le_add_right _ _) hZ⟩, fun p e R s m args below meth c H locs ls hC hT hf hlo hk hz hR hl => ?_⟩
  obtain ⟨⟨hx, hb, hml, hown, hts⟩, hA, -⟩ := id hC
  obtain ⟨hst, hln⟩ := popN_st (g := g) hp
  have hG : GoodIn wsG (va_wsS E.2.2.1 idx y (mdWH y cy ml hh)) := fun w hw => by
    unfold va_wsS at hw
    rcases List.mem_append.mp hw with hw | hw
    · simp only [List.mem_cons, List.not_mem_nil, or_false] at hw
      rcases hw with rfl | rfl | rfl
      · exact wsG_good _ h1
      · exact wsG_good _ h2
      · exact wsG_good _ h3
    · rcases List.mem_cons.mp hw with rfl | hw
      · exact wsG_good _ hcw
      · exact wsG_good _ hw
  have cw := vx_cwSW (R := R) (mc := mc) (ms := ms) (maxL := ml) (ret := some .int) (bytes := cy) (hh := hh) (ws' := wsG) (rm := { frames := fr, cells := mc, slots := ms, locals := lo }) np hts hG rfl rfl rfl hd0 ⟨by show fr + 1 ≤ R.frames; omega, by show 8 + (ml + 11) + lo ≤ R.locals; omega⟩
  have hrun := vx_runSW (l := l) (p := p) (e := e) (below := below) (meth := meth) (locs := locs) (cells := k) (slots := z) (g := F0 m pc ls (st.map (dv g))) (As := av.map (dv g)) (rest := r.map (dv g)) ⟨hx, hb, hml, hown, hts⟩ (hE g HB) cw ⟨PTN.blind _ _ _ _, fun U hU hW => ⟨⟨pre_of hA hR U hU hW, hT.1.warm hW⟩, hT.2.warm hW⟩⟩ rfl hln hl.1 hst (room8 g h8) hd ⟨by omega, by omega⟩
  intro T hT0 X
  obtain ⟨v, st₀, t, T2, L2, h0, X2, hL2, e1, e2, ⟨hv, hR2⟩, stp⟩ := hrun T hT0 X
  cases hv
  have kk := k0.2 p e R s m args below meth c T2.heap (locs ++ L2) ls hC hT hf hlo hk hz (by
    rw [e1]
    exact ⟨hR2.1, hR2.2.1, hR2.2.2.1, hR2.2.2.2.1, fun q hq => by
      rcases List.mem_append.mp hq with h | h
      · exact hR.2.2.2.2 q h
      · exact hL2 q h⟩) hl
  have kk : W p l e R s m args below meth c T2.heap (locs ++ L2) (k + mc) (z + ms) (Qf below args s) (F0 m (pc + 3) ls (.int (Int32.ofInt n0) :: r.map (dv g))) := kk
  obtain ⟨t2, a1, b1⟩ := kk T2 rfl X2
  exact ⟨t2, stp t2 a1, b1⟩
end TLNS
