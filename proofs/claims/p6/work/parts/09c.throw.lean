/-! What the class throws. -/
theorem sx_rfl {l : Launch} {E : ME} (x : Cfg) : Sx_ l E x x := ⟨⟨Nat.le_refl _, Nat.le_refl _⟩, fun g HB p e R s m args below meth c Q H locs ls _ _ _ _ _ hR hl kk => kk H locs ls hR hl⟩
theorem sx_trans {l : Launch} {E : ME} {x y w : Cfg} (h1 : Sx_ l E x y) (h2 : Sx_ l E y w) : Sx_ l E x w :=
  ⟨⟨Nat.le_trans h1.1.1 h2.1.1, Nat.le_trans h1.1.2 h2.1.2⟩, fun g HB p e R s m args below meth c Q H locs ls hC hf hlo hk hz hR hl kk =>
    h1.2 g HB p e R s m args below meth c Q H locs ls hC hf hlo (Nat.le_trans h2.1.1 hk) (Nat.le_trans h2.1.2 hz) hR hl fun H' locs' ls' hR' hl' => h2.2 g HB p e R s m args below meth c Q H' locs' ls' hC hf hlo hk hz hR' hl' kk⟩
/-- the method comes to its end with F, or to a place where X is -/
def Tx (l : Launch) (E : ME) (F : Option V → Hp → Nat → Nat → Prop) (X : Cfg → Prop) (x : Cfg) : Prop := To l E x F ∨ ∃ y, X y ∧ Sx_ l E x y
theorem Tx.gn {l : Launch} {E : ME} {F : Option V → Hp → Nat → Nat → Prop} {X : Cfg → Prop} : Gn l E (Tx l E F X) := fun x y hs k => by
  rcases k with k | ⟨w, hw, hs2⟩
  · exact Or.inl (to_of hs k)
  · exact Or.inr ⟨w, hw, sx_trans hs hs2⟩
abbrev ISE : String := "java/lang/IllegalStateException"
abbrev IOB : String := "java/lang/IndexOutOfBoundsException"
abbrev IAE : String := "java/lang/IllegalArgumentException"
def thN : List String := ["java/lang/RuntimeException", "java/lang/Exception"]
/-- what is thrown: its class, where the class, the text and the constructor stand, the text, its name -/
abbrev XI : Type := String × Nat × Nat × Nat × String × Nat
def xis : List XI := [(ISE, 98, 100, 102, "no more messages can come", 101), (IOB, 123, 125, 127, "the message is not there", 103), (IAE, 139, 141, 143, "it is no tag", 105), (ISE, 98, 163, 102, "it has eight others", 107), (IAE, 139, 182, 143, "it is no query", 109)]
def thL : List Cond := vx_atS "MailArchive" 102 ISE thN ++ (vx_atS "MailArchive" 127 IOB thN ++ vx_atS "MailArchive" 143 IAE thN)
def isTd (w : Cond) : Bool := match w with
  | .castable _ _ => true
  | .declares _ => true
  | _ => false
def isTh (w : Cond) : Bool := w.onTables && (goodWord w || isTd w)
theorem th_is : thL.all isTh = true := by decide +kernel
theorem th_on {w : Cond} (h : w ∈ thL) : w.onTables = true := by
  have h1 := List.all_eq_true.mp th_is w h
  unfold isTh at h1
  rw [Bool.and_eq_true] at h1
  exact h1.1
theorem th_warm {w : Cond} (h : w ∈ thL) {s U : State} (hW : s.WarmedH U.vm) (hz : va_Nw w s) : va_Nw w U := by
  have h1 := List.all_eq_true.mp th_is w h
  unfold isTh at h1
  rw [Bool.and_eq_true, Bool.or_eq_true] at h1
  rcases h1.2 with h2 | h2
  · exact word_at hW (good_of_word h2) hz
  · cases w <;> first | exact va_Nw.warmC hW hz | exact va_Nw.warmD hW hz | cases h2
/-- what a throw wants to know -/
def TX (g : GG) (HB : Heap) (U : State) : Prop := (∀ w ∈ thL, va_Nw w U) ∧ vx_Zq Bundle.tN "UNASSIGNED_STACK" Bundle.steD (hiA g) U HB ∧ vx_Zq Bundle.tN "SUPPRESSED_SENTINEL" Bundle.listD (hiA g) U HB
theorem TX.warm {g : GG} {HB : Heap} {s U : State} (hW : s.WarmedH U.vm) (h : TX g HB s) : TX g HB U := ⟨fun w hw => th_warm hw hW (h.1 w hw), h.2.1.moved hW.alike, h.2.2.moved hW.alike⟩
theorem TX.same {g : GG} {HB : Heap} {s U : State} (hv : U.vm = s.vm) (h : TX g HB s) : TX g HB U :=
  ⟨fun w hw => va_Nw.same (th_on hw) hv.symm (h.1 w hw), h.2.1.moved (by rw [hv]; exact Vm.Alike.refl _), h.2.2.moved (by rw [hv]; exact Vm.Alike.refl _)⟩
def PT_ (g : GG) (HB : Heap) (av : List V) (h : Hp) : Array Value → State → Prop := fun a U => PP g HB av h a U ∧ TX g HB U
theorem PT_.blind (g : GG) (HB : Heap) (av : List V) (h : Hp) : FrameBlind (PT_ g HB av h) := by
  intro a U fr mk q
  exact ⟨PP.blind g HB av h a U fr mk q.1, TX.same (s := U) (U := U.calling fr mk a) rfl q.2⟩
def XT (g : GG) (HB : Heap) (E9 : String) (h : Hp) : String → State → State → Prop := fun E _ t => E = E9 ∧ Rep g HB h t.heap []
def QF : Array Value → State → Outcome → State → Prop := fun _ _ _ _ => False
/-- a name is taken by what is thrown: nobody looks at it -/
def xh (h : Hp) : Hp := (h.1 + 1, h.2)
theorem Rep.junk {g : GG} {HB H H2 : Heap} {h : Hp} {locs : List Loc} (hR : Rep g HB h H locs) (hlt : h.1 < 1000000) (hz : H2.size = H.size + 1) (oq : ∀ q : Nat, q < H.size → H2[q]? = H[q]?) : Rep g HB (xh h) H2 [] := by
  have hs := hR.1
  refine ⟨⟨by rw [hz]; show _ = g.1 + (h.1 + 1); omega, hs.2.1, Nat.succ_pos _, hlt⟩, fun q hq => by rw [oq q (by omega)]; exact hR.2.1 q hq, fun b tb hb => ?_, fun b hb k => ?_, fun q hq => by cases hq⟩
  · have h2 := hR.2.2.1 b tb hb
    exact ⟨h2.1, Nat.lt_succ_of_lt h2.2.1, h2.2.2.kept (oq _ h2.2.2.lt)⟩
  · have hb : h.1 + 1 ≤ b := hb
    exact hR.2.2.2.1 b (by omega) k
/-- a call of d throws something of class E9 -/
def EvX (l : Launch) (d : MD) (fr lo : Nat) (av : List V) (h : Hp) (E9 : String) (h' : Hp) (mc ms : Nat) : Prop :=
  ∀ (g : GG) (HB : Heap), vx_Met l d.1 (mdW d) { frames := fr, cells := mc, slots := ms, locals := lo } (PT_ g HB av h) QF (XT g HB E9 h') mc ms (hiA g)
theorem sub_l {x : Cond} (h : x ∈ vx_atS "MailArchive" 102 ISE thN) : x ∈ thL := List.mem_append_left _ h
theorem sub_m {x : Cond} (h : x ∈ vx_atS "MailArchive" 127 IOB thN) : x ∈ thL := List.mem_append_right _ (List.mem_append_left _ h)
theorem sub_r {x : Cond} (h : x ∈ vx_atS "MailArchive" 143 IAE thN) : x ∈ thL := List.mem_append_right _ (List.mem_append_right _ h)
/-- what is told of each throw -/
theorem xi_ok {x : XI} (hx : x ∈ xis) : Bundle.fit x.1 = true ∧ Cond.classLink "MailArchive" x.2.1 x.1 ∈ wsG ∧ Cond.initialized x.1 ∈ wsG ∧ ("MailArchive", x.2.2.1, x.2.2.2.2.1, x.2.2.2.2.2) ∈ xR ∧ (∀ w ∈ vx_atS "MailArchive" x.2.2.2.1 x.1 thN, w ∈ thL) ∧ vx_ot (Cond.classLink "MailArchive" x.2.1 x.1) = true ∧ vx_ot (Cond.initialized x.1) = true := by
  simp only [xis, List.mem_cons, List.not_mem_nil, or_false] at hx
  rcases hx with rfl | rfl | rfl | rfl | rfl
  · exact ⟨by decide +kernel, tin 3 82 (by decide +kernel) rfl, tin 1 16 (by decide +kernel) rfl, List.mem_of_getElem? (i := 0) rfl, fun w hw => sub_l hw, rfl, rfl⟩
  · exact ⟨by decide +kernel, tin 5 152 (by decide +kernel) rfl, tin 1 30 (by decide +kernel) rfl, List.mem_of_getElem? (i := 1) rfl, fun w hw => sub_m hw, rfl, rfl⟩
  · exact ⟨by decide +kernel, tin 5 194 (by decide +kernel) rfl, tin 1 31 (by decide +kernel) rfl, List.mem_of_getElem? (i := 2) rfl, fun w hw => sub_r hw, rfl, rfl⟩
  · exact ⟨by decide +kernel, tin 3 82 (by decide +kernel) rfl, tin 1 16 (by decide +kernel) rfl, List.mem_of_getElem? (i := 3) rfl, fun w hw => sub_l hw, rfl, rfl⟩
  · exact ⟨by decide +kernel, tin 5 194 (by decide +kernel) rfl, tin 1 31 (by decide +kernel) rfl, List.mem_of_getElem? (i := 4) rfl, fun w hw => sub_r hw, rfl, rfl⟩
theorem evx_of {l : Launch} (hst0 : l.stackTraces = false) {y : MethodName} {cc : ByteArray} {nL fr lo : Nat} {ret : Option FieldType} {av : List V} {h : Hp} (hp : plainName y.cls = true) (hown : y.cls = "MailArchive") (hl0 : slen av ≤ nL) {x : XI} (hx : x ∈ xis) {pcT : Nat} {L' : LL} {h' : Hp} {k' z' : Nat}
    (d0 : decode cc pcT = .ok (.new x.2.1, 3)) (d3 : decode cc (pcT + 3) = .ok (.dup, 1)) (d4 : decode cc (pcT + 4) = .ok (.ldc x.2.2.1, 2)) (d6 : decode cc (pcT + 6) = .ok (.invokespecial x.2.2.2.1, 3)) (d9 : decode cc (pcT + 9) = .ok (.athrow, 1))
    (hs : Sx_ l (cc, nL, y.cls, y.name, ret, fr, lo) (0, argsA 0 av, [], h, 0, 0) (pcT, L', [], h', k', z')) (hle : h.1 ≤ h'.1) (hlt : h'.1 < 1000000) (hfr : 6 ≤ fr) (hlo : 82 ≤ lo) : EvX l (y, cc, nL, ret) fr lo av h x.1 (xh h') (k' + 1) (z' + 6) := by
  intro g HB
  refine vx_ofW (cc := cc) (maxL := nL) (ret := ret) hp rfl ?_
  intro p e s m args below meth c s₁ B hml htab hv
  obtain ⟨⟨rfl, hR0, hKA⟩, hT⟩ := hv
  have hts0 := atoms_spec (ws := mdW (y, cc, nL, ret)) B.pre
  have hfc := findClass_of_methodNamed B.named
  have hC : Cx g HB p s m (av.map (dv g)).toArray meth c (cc, nL, y.cls, y.name, ret, fr, lo) :=
    ⟨⟨B.exec, B.bytes, hml, hfc, fun w hw => hts0 w (List.mem_cons_of_mem _ hw)⟩, hKA, (name_of_methodNamed B.named B.method).1, B.returns, B.notSynchronized⟩
  have hle1 : (lg_sl (av.map (dv g))).length ≤ nL := by rw [slen_eq]; exact hl0
  have hl := lv_entry (av.map (dv g)) hle1
  rw [lg_entry_eq]
  generalize (lg_sl (av.map (dv g)) ++ List.replicate (nL - (lg_sl (av.map (dv g))).length) Slot.unset).toArray = ls at hl ⊢
  rw [← argsA_eq] at hl
  refine hs.2 g HB p e _ s m _ below meth c _ s.heap [] ls hC (Nat.le_refl fr) (Nat.le_refl lo) (Nat.le_succ k') (Nat.le_add_right z' 6) hR0 hl (fun H1 locs1 ls1 hR1 hl1 => ?_)
  have hS : va_S (hiA g) s.heap H1 locs1 := by
    refine ⟨?_, fun q hq hn => ?_, fun q hq => hR1.2.2.2.2 q hq⟩
    · have a1 : s.heap.size = g.1 + h.1 := hR0.1.1
      have a2 : H1.size = g.1 + h'.1 := hR1.1.1
      omega
    · rw [hR1.2.1 q (Nat.lt_of_not_le hn), hR0.2.1 q (Nat.lt_of_not_le hn)]
  obtain ⟨x1, x2, x3, x4, x5, x6, x7⟩ := xi_ok hx
  rw [hown] at hfc
  have hk0 : ∀ a : Nat, a < HB.size → ¬ hiA g a → s.heap[a]? = HB[a]? := fun a _ hn => hR0.2.1 a (Nat.lt_of_not_le hn)
  exact vx_throwS (l := l) (A := hiA g) (own := "MailArchive") (cls := x.1) (names := thN) (ik := x.2.1) (is := x.2.2.1) (ic := x.2.2.2.1) (text := x.2.2.2.2.1) (sa := g.2.1 x.2.2.2.2.2) (mc := k' + 1) (ms := z' + 6) (free := hiA g) (XC := XT g HB x.1 (xh h')) (Qc := QF)
    B.exec B.bytes hst0 hfc x1 (by
      intro n hn
      simp only [thN, List.mem_cons, List.not_mem_nil, or_false] at hn
      rcases hn with rfl | rfl <;> decide +kernel)
    (hC.1.2.2.2.2 _ x2) (hC.1.2.2.2.2 _ x3) (hKA.2.2.2.2.2.1 _ x4) (fun w hw => va_Nw.use (th_on (x5 w hw)) (hT.1 w (x5 w hw)))
    (fun w hw => by
      rcases List.mem_cons.mp hw with rfl | hw
      · exact x6
      rcases List.mem_cons.mp hw with rfl | hw
      · exact x7
      unfold vx_ot
      rw [th_on (x5 w hw)]
      rfl)
    (hT.2.1.kept hk0) (hT.2.2.kept hk0) hS (hl1.1.trans hml.symm) d0 d3 d4 d6 d9 (fun x hx => (htab x hx).elim)
    (by show 2 + 3 < fr; omega) (by show 0 + (13 * (2 + 1) + 43) ≤ lo; omega) (Nat.le_refl _) (Nat.le_refl _) B.notSynchronized (fun t _ hz oq => ⟨rfl, hR1.junk hlt hz oq⟩) hR1.2.2.2.2 (Nat.le_refl _) (Nat.le_refl _)
