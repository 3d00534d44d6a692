/-! The law's own helpers, and what the class throws. -/
theorem csM_ok {g : GG} {A : List (Nat × Nat × Nat × Bool)} (hA : ∀ x ∈ A, cnd x.1 (gS g x.2.1) (nI x.2.2.1) = x.2.2.2) {q : Nat × AV × AV × Bool} (h : csM A q = true) : cnd q.1 (gI g q.2.1) (gI g q.2.2.1) = q.2.2.2 := by
  obtain ⟨f, a, b, t⟩ := q
  simp only [csM] at h
  cases hs : syC a with
  | none => rw [hs] at h; cases h
  | some j =>
    cases hi : itC b with
    | none => rw [hs, hi] at h; cases h
    | some n =>
      rw [hs, hi] at h
      simp only at h
      obtain ⟨x, hx, hb⟩ := List.any_eq_true.mp h
      simp only [Bool.and_eq_true] at hb
      obtain ⟨h1, h2, h3, h4⟩ := hb
      have e1 := Nat.eq_of_beq_eq_true h1
      have e2 := Nat.eq_of_beq_eq_true h2
      have e3 := Nat.eq_of_beq_eq_true h3
      have e4 : x.2.2.2 = t := by
        cases hx4 : x.2.2.2 <;> cases t <;> rw [hx4] at h4 <;> first | rfl | cases h4
      have hk := hA x hx
      rw [e1, e2, e3, e4] at hk
      have ga : gI g a = gS g j := by
        rcases a with a | a | v
        · cases hs
        · cases hs
        · cases v <;> first | cases hs | skip
          rename_i k
          simp only [syC] at hs
          cases hk0 : Nat.ble 10 k with
          | false => rw [hk0] at hs; cases hs
          | true => rw [hk0] at hs; cases hs; rfl
      have gb : gI g b = nI n := by
        rcases b with b | b
        · cases hi; rfl
        · cases hi
      show cnd f (gI g a) (gI g b) = t
      rw [ga, gb]
      exact hk
theorem fin_spec {A : List (Nat × Nat × Nat × Bool)} {c : Option Cfg} (h : fin A c = true) : ∃ (L : LL) (H : List AE) (k z : Nat) (o : List Bool) (cs : CSL), c = some (625, L, [.inl 1], H, k, z, o, cs) ∧ k ≤ 600002 ∧ z ≤ 7302232 ∧ ∀ q ∈ cs, csM A q = true := by
  cases c with
  | none => cases h
  | some x =>
    obtain ⟨pc, L, st, H, k, z, o, cs⟩ := x
    simp only [fin, Bool.and_eq_true] at h
    obtain ⟨h1, h2, h3, h4, h5⟩ := h
    have e1 := Nat.eq_of_beq_eq_true h1
    subst e1
    have e2 : st = [.inl 1] := by
      rcases st with _ | ⟨a, r⟩
      · cases h2
      rcases a with x | a
      · rcases r with _ | ⟨b, r⟩
        · have e := Nat.eq_of_beq_eq_true h2
          subst e
          rfl
        · cases h2
      · cases h2
    subst e2
    exact ⟨L, H, k, z, o, cs, rfl, Nat.ble_eq.mp h3, Nat.ble_eq.mp h4, List.all_eq_true.mp h5⟩
theorem p_and15 {g : GG} {cc : ByteArray} {nL pc n k : Nat} (hk : nI (g.2.1 2000) &&& 15 = nI k) (hd : decode cc pc = .ok (.iand, 1)) (hn : pc + 1 = n) : PSnd g cc nL pc (q_and15 k n) := by
  intro L st pc' L' st' h p l e R s m args below meth c H locs cells slots Q ls hx hb hl kk
  rcases st with _ | ⟨a, _ | ⟨b, r⟩⟩
  · cases h
  · rcases a with a | a <;> cases h
  rcases a with x | a
  · simp only [q_and15] at h
    cases hb0 : Nat.beq x 15 && sy0 b with
    | false => rw [hb0] at h; cases h
    | true =>
      rw [hb0] at h
      cases h
      subst hn
      rw [Bool.and_eq_true] at hb0
      have ex := Nat.eq_of_beq_eq_true hb0.1
      subst ex
      have hv : cV g b = .int (nI (g.2.1 2000)) := by
        rcases b with b | b | v
        · cases hb0.2
        · cases hb0.2
        · cases v <;> first | cases hb0.2 | skip
          rename_i q
          have e2 := Nat.eq_of_beq_eq_true hb0.2
          subst e2
          rfl
      have hkk := kk ls hl
      rw [List.map_cons] at hkk
      rw [List.map_cons, List.map_cons, hv]
      refine lv_iand hx hb hd ?_
      have e : nI (g.2.1 2000) &&& nI 15 = nI k := hk
      rw [e]
      exact hkk
  · cases h
/-- a helper's contract, where nothing is thrown -/
theorem hCall_ok {g : GG} {HB : Heap} {l : Launch} (hM : ∀ id d, MM id = some d → MSnd g HB l MM d) {y : MethodName} {cy : ByteArray} {ml pe nf : Nat} {hh : List (Nat × Nat × Nat × Nat)} {P : List (Nat × FF)}
    (hP : ∀ call, SndC g HB l MM call → ∀ x ∈ P, Snd g HB l call cy ml y.cls y.name x.1 x.2) (hy : plainName y.cls = true) (hde : decode cy pe = .ok (.ireturn, 1))
    {id fr lo : Nat} {av : List AV} {h : List AE} {o : List Bool} {cs : CSL} {rv : Option AV} {h' : List AE} {mc ms : Nat} {o' : List Bool} {cs' : CSL} (hf : hCall P pe ml nf id fr lo av h o cs = some (rv, h', mc, ms, o', cs')) :
    cs <:+ cs' ∧ (okc g cs' → Met l y (.codeWith y cy ml (some .int) hh :: wsG) { frames := fr, cells := mc, slots := ms, locals := lo } (PP g HB av h) (QQ g HB rv h') mc ms (hiA g)) := by
  simp only [hCall] at hf
  cases hb0 : Nat.ble (slen av) ml with
  | false => rw [hb0] at hf; cases hf
  | true =>
    rw [hb0] at hf
    simp only at hf
    cases hr : run MM nf P fr lo (0, argsA 0 av, [], h, 0, 0, o, cs) with
    | none => rw [hr] at hf; cases hf
    | some c1 =>
      obtain ⟨pc1, L1, st1, h1, k1, z1, o1, cs1⟩ := c1
      rw [hr] at hf
      simp only at hf
      cases hp : Nat.beq pc1 pe with
      | false => rw [hp] at hf; cases hf
      | true =>
        rw [hp] at hf
        have ep := Nat.eq_of_beq_eq_true hp
        subst ep
        rcases st1 with _ | ⟨a, _ | ⟨a2, r⟩⟩
        · cases hf
        · simp only at hf
          cases hi : isI a with
          | false => rw [hi] at hf; cases hf
          | true =>
            rw [hi] at hf
            cases hf
            have hs := run_ok hM nf P cy ml y.cls y.name hP 0 fr lo (argsA 0 av) [] h 0 0 o cs pc1 L1 [a] h' mc ms o' cs' hr
            refine ⟨hs.1.1, fun hok => ?_⟩
            refine va_MetW (cc := cy) (maxL := ml) (ret := some .int) (hh := hh) hy rfl ?_
            intro p e s m args below meth c s₁ B hml hv
            obtain ⟨rfl, hR0, hKA⟩ := hv
            have hts0 := atoms_spec (ws := Cond.codeWith y cy ml (some .int) hh :: wsG) B.pre
            have hC : Cx g HB p s m (av.map (cV g)).toArray meth c cy ml y.cls y.name :=
              ⟨⟨B.exec, B.bytes, hml, findClass_of_methodNamed B.named, fun w hw => hts0 w (List.mem_cons_of_mem _ hw)⟩, hKA, (name_of_methodNamed B.named B.method).1⟩
            have hle : (lg_sl (av.map (cV g))).length ≤ ml := by rw [slen_eq]; exact Nat.ble_eq.mp hb0
            have hl := lv_entry (av.map (cV g)) hle
            rw [lg_entry_eq]
            generalize (lg_sl (av.map (cV g)) ++ List.replicate (ml - (lg_sl (av.map (cV g))).length) Slot.unset).toArray = ls at hl ⊢
            rw [← argsA_eq] at hl
            refine hs.2 hok p e _ s m _ below meth c _ s.heap [] ls hC (Nat.le_refl fr) (Nat.le_refl lo) (Nat.le_refl mc) (Nat.le_refl ms) hR0 hl (fun H1 locs1 ls1 hR1 hl1 => ?_)
            have hx := B.exec
            have hb := B.bytes
            have hret := B.returns
            have hlocks := B.notSynchronized
            rw [List.map_cons, cV_I hi]
            exact W.iret hx hb hret (fun t ht _ => ⟨by rw [Option.map_some, cV_I hi], by rw [ht]; exact hR1.nolocs⟩) hR1.2.2.2 hde hlocks
        · cases hf
theorem m_hlp {g : GG} {HB : Heap} {l : Launch} {call : CallF} {cc : ByteArray} {nL : Nat} {own nm : String} {pc n : Nat} (hM : ∀ id d, MM id = some d → MSnd g HB l MM d) {y : MethodName} {cy : ByteArray} {ml pe np w idx : Nat} {hh : List (Nat × Nat × Nat × Nat)} {P : List (Nat × FF)}
    (hP : ∀ call, SndC g HB l MM call → ∀ x ∈ P, Snd g HB l call cy ml y.cls y.name x.1 x.2) (hy : plainName y.cls = true) (hde : decode cy pe = .ok (.ireturn, 1))
    (hcw : Cond.codeWith y cy ml (some .int) hh ∈ wsG) (hd0 : y.cls ≠ "java/lang/invoke/MethodHandle" ∧ y.cls ≠ "java/lang/invoke/VarHandle" ∧ (parseMethodDescriptor y.desc).map (fun d => d.parameters.length) = some np) (hw : w = ml + 19)
    (h1 : Cond.methodLink own idx y ∈ wsG) (h2 : Cond.static y ∈ wsG) (h3 : Cond.initialized y.cls ∈ wsG) (hd : decode cc pc = .ok (.invokestatic idx, 3)) (hn : pc + 3 = n) : Snd g HB l call cc nL own nm pc (s_hlp P pe np ml w n) := by
  intro fr lo L st h k z o cs pc' L' st' h' k' z' o' cs' hf
  simp only [s_hlp] at hf
  cases hp : popN np st [] with
  | none => rw [hp] at hf; cases hf
  | some x =>
    obtain ⟨as, r⟩ := x
    rw [hp] at hf
    obtain ⟨fr', rv, mc, ms, rfl, hlo, h8, hcall, rfl, rfl, rfl, rfl, rfl⟩ := goC_ok hf
    subst hn
    obtain ⟨hsuf, hmet⟩ := hCall_ok (hh := hh) hM hP hy hde hcall
    refine ⟨⟨hsuf, Nat.le_add_right _ _, Nat.le_add_right _ _⟩, fun hok p e R s m args below meth c Q H locs ls hC hfr hlo2 hk hz hR hl kk => ?_⟩
    obtain ⟨⟨hx, hb, hml, hown, hts⟩, hA, -⟩ := hC
    obtain ⟨hst, hln⟩ := popN_st (g := g) hp
    have hG : GoodIn wsG (va_wsS own idx y (.codeWith y cy ml (some .int) hh :: wsG)) := fun w hw => by
      unfold va_wsS at hw
      rcases List.mem_append.mp hw with hw | hw
      · simp only [List.mem_cons, List.not_mem_nil, or_false] at hw
        rcases hw with rfl | rfl | rfl
        · exact wsG_good _ h1
        · exact wsG_good _ h2
        · exact wsG_good _ h3
      · rcases List.mem_cons.mp hw with rfl | hw
        · exact wsG_good _ hcw
        · exact wsG_good _ hw
    have cw := vx_cwSW (R := R) (mc := mc) (ms := ms) (maxL := ml) (ret := some .int) (bytes := cy) (hh := hh) (ws' := wsG) (rm := { frames := fr', cells := mc, slots := ms, locals := lo - w }) np hts hG rfl rfl rfl hd0 ⟨hfr, by show 8 + (ml + 11) + (lo - w) ≤ R.locals; omega⟩
    refine sim_call (vx_runSW (g := F0 m pc ls (st.map (cV g))) (As := as.map (cV g)) (rest := r.map (cV g)) ⟨hx, hb, hml, hown, hts⟩ (hmet hok) cw ⟨PP.blind _ _ _ _, pre_of (p := p) hA hR⟩ rfl hln hl.1 hst (room8 g h8) hd ⟨hk, hz⟩) hR.2.2.2 fun H1 locs1 hR1 => ?_
    have hkk := kk H1 locs1 ls hR1 hl
    rw [List.map_append] at hkk
    cases rv <;> exact hkk
/-! ### A throw: a cell is made that nobody looks at -/
def junk : Cell := { cls := 0, slots := #[], vm := .none }
theorem push_kept {HB : Heap} {c : Cell} : ∀ a : Nat, a < HB.size → (HB.push c)[a]? = HB[a]? := fun a h => by rw [Array.getElem?_push, if_neg (Nat.ne_of_lt h)]
theorem KX.push {g : GG} {HB : Heap} {U : State} {c : Cell} (h : KX g HB U) : KX g (HB.push c) U :=
  ⟨fun x hx => (h.1 x hx).kept (fun a ha _ => push_kept a ha), fun x hx => (h.2.1 x hx).kept (fun a ha _ => push_kept a ha), fun x hx => (h.2.2.1 x hx).kept (fun a ha _ => push_kept a ha), h.2.2.2.1, fun x hx => (h.2.2.2.2.1 x hx).kept (fun a ha _ => push_kept a ha), h.2.2.2.2.2.kept (fun a ha _ => push_kept a ha)⟩
theorem KA.push {g : GG} {HB : Heap} {U : State} {c : Cell} (h : KA g HB U) : KA g (HB.push c) U := ⟨h.1, h.2.1, h.2.2.push⟩
theorem Rh.junk {g : GG} {HB H H2 : Heap} {h : List AE} {locs : List Loc} (hbs : HB.size = g.1) (hR : Rh g HB h H locs) (hz : H.size ≤ H2.size) (oq : ∀ q : Nat, q < H.size → H2[q]? = H[q]?) : Rh g (HB.push junk) h H2 [] := by
  have hz0 := hR.1.1
  refine ⟨⟨by omega, fun hx => by rw [Array.size_push] at hx; omega⟩, fun q hq => by rw [oq q (by omega), hR.2.1 q hq, push_kept q (by omega)], hR.2.2.1.kept (fun k q hq => oq _ ((hR.2.2.1 k q hq).lt)), fun q hq => by cases hq⟩
abbrev IOOBE : String := "java/lang/IndexOutOfBoundsException"
def thN : List String := ["java/lang/RuntimeException", "java/lang/Exception"]
def thL : List Cond := vx_atS "MailArchive" 127 IOOBE thN
def isTd (w : Cond) : Bool := match w with
  | .castable _ _ => true
  | .declares _ => true
  | _ => false
def isTh (w : Cond) : Bool := w.onTables && (goodWord w || isTd w)
theorem th_is : thL.all isTh = true := by decide +kernel
theorem th_on {w : Cond} (h : w ∈ thL) : w.onTables = true := by
  have h1 := List.all_eq_true.mp th_is w h
  unfold isTh at h1
  rw [Bool.and_eq_true] at h1
  exact h1.1
theorem th_warm {w : Cond} (h : w ∈ thL) {s U : State} (hW : s.WarmedH U.vm) (hz : va_Nw w s) : va_Nw w U := by
  have h1 := List.all_eq_true.mp th_is w h
  unfold isTh at h1
  rw [Bool.and_eq_true, Bool.or_eq_true] at h1
  rcases h1.2 with h2 | h2
  · exact word_at hW (good_of_word h2) hz
  · cases w <;> first | exact va_Nw.warmC hW hz | exact va_Nw.warmD hW hz | cases h2
def TX (g : GG) (HB : Heap) (sa : Nat) (U : State) : Prop := (∀ w ∈ thL, va_Nw w U) ∧ vk_R "MailArchive" 125 "the message is not there" sa U ∧ vx_Zq Bundle.tN "UNASSIGNED_STACK" Bundle.steD (hiA g) U HB ∧ vx_Zq Bundle.tN "SUPPRESSED_SENTINEL" Bundle.listD (hiA g) U HB
theorem TX.warm {g : GG} {HB : Heap} {sa : Nat} {s U : State} (hW : s.WarmedH U.vm) (h : TX g HB sa s) : TX g HB sa U := ⟨fun w hw => th_warm hw hW (h.1 w hw), vk_R.warm hW h.2.1, h.2.2.1.moved hW.alike, h.2.2.2.moved hW.alike⟩
theorem TX.same {g : GG} {HB : Heap} {sa : Nat} {s U : State} (hv : U.vm = s.vm) (h : TX g HB sa s) : TX g HB sa U :=
  ⟨fun w hw => va_Nw.same (th_on hw) hv.symm (h.1 w hw), vk_R.same hv h.2.1, h.2.2.1.moved (by rw [hv]; exact Vm.Alike.refl _), h.2.2.2.moved (by rw [hv]; exact Vm.Alike.refl _)⟩
def PT (g : GG) (HB : Heap) (sa : Nat) (av : List AV) (h : List AE) : Array Value → State → Prop := fun a U => PP g HB av h a U ∧ TX g HB sa U
theorem PT.blind (g : GG) (HB : Heap) (sa : Nat) (av : List AV) (h : List AE) : FrameBlind (PT g HB sa av h) := by
  intro a U fr mk q
  exact ⟨PP.blind g HB av h a U fr mk q.1, TX.same (s := U) (U := U.calling fr mk a) rfl q.2⟩
def XT (g : GG) (HB : Heap) (h : List AE) : String → State → State → Prop := fun E _ t => E = IOOBE ∧ Rh g (HB.push junk) h t.heap []
def QF : Array Value → State → Outcome → State → Prop := fun _ _ _ _ => False
theorem xthrow {g : GG} {HB : Heap} {l : Launch} {sa : Nat} (hst0 : l.stackTraces = false) (hbs : HB.size = g.1) (hM : ∀ id d, MM id = some d → MSnd g HB l MM d)
    {y : MethodName} {cy : ByteArray} {ml pcT nf : Nat} {ret : Option FieldType} {P : List (Nat × FF)} (hP : ∀ call, SndC g HB l MM call → ∀ x ∈ P, Snd g HB l call cy ml y.cls y.name x.1 x.2) (hown : y.cls = "MailArchive") (hy : plainName y.cls = true)
    (d0 : decode cy pcT = .ok (.new 123, 3)) (d3 : decode cy (pcT + 3) = .ok (.dup, 1)) (d4 : decode cy (pcT + 4) = .ok (.ldc 125, 2)) (d6 : decode cy (pcT + 6) = .ok (.invokespecial 127, 3)) (d9 : decode cy (pcT + 9) = .ok (.athrow, 1))
    {fr lo : Nat} {av : List AV} {h : List AE} {o : List Bool} {cs : CSL} {L' : LL} {h' : List AE} {k' z' : Nat} {o' : List Bool} {cs' : CSL} (hrun : run MM nf P fr lo (0, argsA 0 av, [], h, 0, 0, o, cs) = some (pcT, L', [], h', k', z', o', cs'))
    (hle : slen av ≤ ml) (hlen : h.length ≤ h'.length) (hok : okc g cs') (hfr : 6 ≤ fr) (hlo : 82 ≤ lo) :
    vx_Met l y (.code y cy ml ret :: wsG) { frames := fr, cells := k' + 1, slots := z' + 6, locals := lo } (PT g HB sa av h) QF (XT g HB h') (k' + 1) (z' + 6) (hiA g) := by
  refine vx_ofW (cc := cy) (maxL := ml) (ret := ret) hy rfl ?_
  intro p e s m args below meth c s₁ B hml htab hv
  obtain ⟨⟨rfl, hR0, hKA⟩, hT⟩ := hv
  have hts0 := atoms_spec (ws := Cond.code y cy ml ret :: wsG) B.pre
  have hfc := findClass_of_methodNamed B.named
  have hC : Cx g HB p s m (av.map (cV g)).toArray meth c cy ml y.cls y.name :=
    ⟨⟨B.exec, B.bytes, hml, hfc, fun w hw => hts0 w (List.mem_cons_of_mem _ hw)⟩, hKA, (name_of_methodNamed B.named B.method).1⟩
  have hle1 : (lg_sl (av.map (cV g))).length ≤ ml := by rw [slen_eq]; exact hle
  have hl := lv_entry (av.map (cV g)) hle1
  rw [lg_entry_eq]
  generalize (lg_sl (av.map (cV g)) ++ List.replicate (ml - (lg_sl (av.map (cV g))).length) Slot.unset).toArray = ls at hl ⊢
  rw [← argsA_eq] at hl
  refine (run_ok hM nf P cy ml y.cls y.name hP 0 fr lo (argsA 0 av) [] h 0 0 o cs pcT L' [] h' k' z' o' cs' hrun).2 hok p e _ s m _ below meth c _ s.heap [] ls hC (Nat.le_refl fr) (Nat.le_refl lo) (Nat.le_succ k') (Nat.le_add_right z' 6) hR0 hl (fun H1 locs1 ls1 hR1 hl1 => ?_)
  have hS : va_S (hiA g) s.heap H1 locs1 := by
    refine ⟨?_, fun q hq hn => ?_, fun q hq => hR1.2.2.2 q hq⟩
    · rw [hR0.1.2 hbs, hR1.1.2 hbs]; omega
    · rw [hR1.2.1 q (Nat.lt_of_not_le hn), hR0.2.1 q (Nat.lt_of_not_le hn)]
  rw [hown] at hfc
  exact vx_throwS (l := l) (sa := sa) (A := hiA g) (own := "MailArchive") (cls := IOOBE) (names := thN) (ik := 123) (is := 125) (ic := 127) (text := "the message is not there") (mc := k' + 1) (ms := z' + 6) (free := hiA g) (XC := XT g HB h') (Qc := QF)
    B.exec B.bytes hst0 hfc (by decide +kernel) (by
      intro n hn
      simp only [thN, List.mem_cons, List.not_mem_nil, or_false] at hn
      rcases hn with rfl | rfl <;> decide +kernel)
    (hC.1.2.2.2.2 _ (tin 5 152 (by decide +kernel) rfl)) (hC.1.2.2.2.2 _ (tin 1 30 (by decide +kernel) rfl)) hT.2.1 (fun w hw => va_Nw.use (th_on hw) (hT.1 w hw))
    (fun w hw => by
      rcases List.mem_cons.mp hw with rfl | hw
      · rfl
      rcases List.mem_cons.mp hw with rfl | hw
      · rfl
      unfold vx_ot
      rw [th_on hw]
      rfl)
    (hT.2.2.1.kept (fun a ha hn => hR0.out a ha hn)) (hT.2.2.2.kept (fun a ha hn => hR0.out a ha hn)) hS (hl1.1.trans hml.symm) d0 d3 d4 d6 d9 (fun x hx => (htab x hx).elim)
    (by show 2 + 3 < fr; omega) (by show 0 + (13 * (2 + 1) + 43) ≤ lo; omega) (Nat.le_refl _) (Nat.le_refl _) B.notSynchronized (fun t _ hz oq => ⟨rfl, Rh.junk hbs hR1 hz oq⟩) hR1.2.2.2 (Nat.le_refl _) (Nat.le_refl _)
theorem hthrow {g : GG} {HB : Heap} {l : Launch} {sa : Nat} (hM : ∀ id d, MM id = some d → MSnd g HB l MM d)
    {y : MethodName} {cy : ByteArray} {ml pcC nf : Nat} {hh : List (Nat × Nat × Nat × Nat)} {P : List (Nat × FF)} (hP : ∀ call, SndC g HB l MM call → ∀ x ∈ P, Snd g HB l call cy ml y.cls y.name x.1 x.2) (hown : y.cls = "MailArchiveLaw") (hy : plainName y.cls = true)
    {x0 : ExceptionTableEntry} {suf : List ExceptionTableEntry} (htab : tableOf hh = x0 :: suf) (hcov : covers x0 pcC = true) (h0 : x0.catchType ≠ 0) (hlk : Cond.classLink "MailArchiveLaw" x0.catchType IOOBE ∈ wsG)
    {pcR : Nat} (hde : decode cy pcR = .ok (.ireturn, 1)) (hH : ∀ (p : Program) (e : Env) (R : Room) (s : State) (m : MethodId) (args : Array Value) (below : List Frame) (meth : Method) (c : Code) (H : Heap) (locs : List Loc) (cells slots : Nat) (Q : State → Prop) (ls : Array Slot) (lv : List (Nat × Value)) (q : Nat), p.tables.exec = Jvm.exec → c.code = cy → lv_has ls ml lv →
      (∀ ls' : Array Slot, W p l e R s m args below meth c H locs cells slots Q (F0 m pcR ls' [.int (nI 1)])) → W p l e R s m args below meth c H locs cells slots Q (F0 m x0.handlerPc ls [.ref q]))
    {yx : MethodName} {cx : ByteArray} {mlx idx npx w : Nat} {retx : Option FieldType} (hdx : Cond.code yx cx mlx retx ∈ wsG) (hclx : yx.cls = "MailArchive") (hnx : yx.cls ≠ "java/lang/invoke/MethodHandle" ∧ yx.cls ≠ "java/lang/invoke/VarHandle" ∧ (parseMethodDescriptor yx.desc).map (fun d => d.parameters.length) = some npx)
    (h1 : Cond.methodLink "MailArchiveLaw" idx yx ∈ wsG) (h2 : Cond.instanceMethod yx ∈ wsG) (h3 : Cond.selects "MailArchive" yx yx ∈ wsG) (h4 : Cond.initialized "MailArchive" ∈ wsG) (hd : decode cy pcC = .ok (.invokevirtual idx, 3))
    {fr lo : Nat} {av : List AV} {h : List AE} {o : List Bool} {cs : CSL} {L' : LL} {st' : List AV} {h' : List AE} {k' z' : Nat} {o' : List Bool} {cs' : CSL} (hrun : run MM nf P (fr + 1) lo (0, argsA 0 av, [], h, 0, 0, o, cs) = some (pcC, L', st', h', k', z', o', cs'))
    (hle : slen av ≤ ml) (hok : okc g cs') {as r : List AV} {q : Nat} {fs : List AV} (hpop : popN npx st' [] = some (as, .inr (.inr (.ref q)) :: r)) (hr8 : slen r ≤ 8) (hq : h'[q]? = some (.inr (9, fs))) (hw : w = mlx + 19) (hwl : w ≤ lo)
    {h'' : List AE} {mc ms : Nat} (hmx : vx_Met l yx (.code yx cx mlx retx :: wsG) { frames := fr, cells := mc, slots := ms, locals := lo - w } (PT g HB sa (.inr (.inr (.ref q)) :: as) h') QF (XT g HB h'') mc ms (hiA g)) :
    Met l y (.codeWith y cy ml (some .int) hh :: wsG) { frames := fr + 1, cells := k' + mc, slots := z' + ms, locals := lo } (PT g HB sa av h) (QQ g (HB.push junk) (some (.inl 1)) h'') (k' + mc) (z' + ms) (hiA g) := by
  refine va_MetW (cc := cy) (maxL := ml) (ret := some .int) (hh := hh) hy rfl ?_
  intro p e s m args below meth c s₁ B hml hv
  obtain ⟨⟨rfl, hR0, hKA⟩, hT⟩ := hv
  have hts0 := atoms_spec (ws := Cond.codeWith y cy ml (some .int) hh :: wsG) B.pre
  have hfc := findClass_of_methodNamed B.named
  have hts : ∀ w ∈ wsG, w.before (av.map (cV g)).toArray s = true := fun w hw => hts0 w (List.mem_cons_of_mem _ hw)
  have hC : Cx g HB p s m (av.map (cV g)).toArray meth c cy ml y.cls y.name :=
    ⟨⟨B.exec, B.bytes, hml, hfc, hts⟩, hKA, (name_of_methodNamed B.named B.method).1⟩
  have hle1 : (lg_sl (av.map (cV g))).length ≤ ml := by rw [slen_eq]; exact hle
  have hl := lv_entry (av.map (cV g)) hle1
  rw [lg_entry_eq]
  generalize (lg_sl (av.map (cV g)) ++ List.replicate (ml - (lg_sl (av.map (cV g))).length) Slot.unset).toArray = ls at hl ⊢
  rw [← argsA_eq] at hl
  refine (run_ok hM nf P cy ml y.cls y.name hP 0 (fr + 1) lo (argsA 0 av) [] h 0 0 o cs pcC L' st' h' k' z' o' cs' hrun).2 hok p e _ s m _ below meth c _ s.heap [] ls hC (Nat.le_refl (fr + 1)) (Nat.le_refl lo) (Nat.le_add_right k' mc) (Nat.le_add_right z' ms) hR0 hl (fun H1 locs1 ls1 hR1 hl1 => ?_)
  obtain ⟨hst, hln⟩ := popN_st (g := g) hpop
  rw [hown] at hfc
  have hcC : vwCl[9]? = some (RX11, TX11, 17) := rfl
  have hG : GoodIn wsG (wsV "MailArchiveLaw" idx "MailArchive" yx (.code yx cx mlx retx :: wsG)) := fun w hw => by
    unfold wsV at hw
    rcases List.mem_append.mp hw with hw | hw
    · simp only [List.mem_cons, List.not_mem_nil, or_false] at hw
      rcases hw with rfl | rfl | rfl | rfl
      · exact wsG_good _ h1
      · exact wsG_good _ h2
      · exact wsG_good _ h3
      · exact wsG_good _ h4
    · rcases List.mem_cons.mp hw with rfl | hw
      · exact wsG_good _ hdx
      · exact wsG_good _ hw
  have cw := cwV (R := { frames := fr + 1, cells := k' + mc, slots := z' + ms, locals := lo }) (mc := mc) (ms := ms) (maxL := mlx) (ret := retx) (bytes := cx) (ws' := wsG) (rm := { frames := fr, cells := mc, slots := ms, locals := lo - w }) npx hts hG rfl rfl rfl ⟨hclx, hnx⟩ ⟨Nat.le_refl _, by show 8 + (mlx + 11) + (lo - w) ≤ lo; omega⟩
  have hpre : ∀ U : State, U.heap = H1 → s.WarmedH U.vm → PT g HB sa (.inr (.inr (.ref q)) :: as) h' ((Value.ref (g.1 + q)) :: as.map (cV g)).toArray U := fun U hU hW => ⟨pre_of (p := p) (av := .inr (.inr (.ref q)) :: as) hKA hR1 U hU hW, hT.warm hW⟩
  have hrun2 := vx_runV (l := l) (p := p) (e := e) (below := below) (meth := meth) (locs := locs1) (cells := k') (slots := z') (R := { frames := fr + 1, cells := k' + mc, slots := z' + ms, locals := lo }) (g := F0 m pcC ls1 (st'.map (cV g))) (C := "MailArchive") (b := g.1 + q) (As := as.map (cV g)) (rest := r.map (cV g)) ⟨B.exec, B.bytes, hml, hfc, hts⟩ hmx cw ⟨PT.blind _ _ _ _ _, va_recv hKA.1 hR1.2.2.1 hcC (Rh.ws hq), hpre⟩ rfl hln hl1.1 hst (room8 g hr8) hd ⟨Nat.le_refl _, Nat.le_refl _⟩
  intro T hT0 X
  rcases hrun2 T hT0 X with ⟨v, st₀, t, T', L, h0', X', hL, e1, e2, hq0, st⟩ | ⟨q9, st₀, t, T', L, E, ce, h0', X', hL, e1, e2, hxt, hce, hcv, hcl, st⟩
  · exact hq0.elim
  · obtain ⟨rfl, hRj⟩ := hxt
    have key := vx_catch (l := l) (own := "MailArchiveLaw") (name := IOOBE) (E := IOOBE) (ce := ce) (q := q9) (H := T'.heap) (locs := locs1 ++ L) (cells := k' + mc) (slots := z' + ms) (pc := pcC) (ls := ls1) (rest := r.map (cV g)) (below := below) (meth := meth) (e := e) (p := p)
      (R := (headSpec (Cond.codeWith y cy ml (some .int) hh :: wsG) { frames := fr + 1, cells := k' + mc, slots := z' + ms, locals := lo }).room)
      (Q := MQ below (QQ g (HB.push junk) (some (.inl 1)) h'') (av.map (cV g)).toArray s (k' + mc) (z' + ms) (hiA g)) hfc [] x0 suf (by rw [vx_table (x := y) B (hts0 _ List.mem_cons_self)]; exact htab) (fun z hz => by cases hz) hcov h0 (hts _ hlk) (va_Nw.use rfl (hKA.2.1 _ (tinN 5 154 (by decide +kernel) rfl))) (by rw [e1]; exact hce) hcv hcl
      (hH p e _ s m _ below meth c _ _ _ _ _ ls1 _ q9 B.exec B.bytes hl1 (fun ls' => W.iret B.exec B.bytes B.returns (fun t9 ht9 _ => ⟨rfl, by rw [ht9, e1]; exact hRj⟩) (fun z hz => by
        rcases List.mem_append.mp hz with hz | hz
        · exact hR1.2.2.2 z hz
        · exact hL z hz) hde B.notSynchronized))
    obtain ⟨t2, a1, b1⟩ := key T' rfl X'
    exact ⟨t2, st.trans a1, b1⟩
