/-! The law's helpers, with what they answer. -/
def QE (g : GG) (HB : Heap) (n0 : Int) (h' : Hp) : Array Value → State → Outcome → State → Prop := fun _ _ oc t => oc = .returned (some (.int (Int32.ofInt n0))) ∧ Rep g HB h' t.heap []
def EvE (l : Launch) (y : MethodName) (cy : ByteArray) (ml : Nat) (hh : List (Nat × Nat × Nat × Nat)) (fr lo : Nat) (av : List V) (h : Hp) (n0 : Int) (h' : Hp) (mc ms : Nat) : Prop := ∀ (g : GG) (HB : Heap), Met l y (mdWH y cy ml hh) { frames := fr, cells := mc, slots := ms, locals := lo } (PT_ g HB av h) (QE g HB n0 h') mc ms (hiA g)
theorem eve_of {l : Launch} {y : MethodName} {cy : ByteArray} {ml : Nat} {hh : List (Nat × Nat × Nat × Nat)} {fr lo : Nat} {av : List V} {h : Hp} {F : Option V → Hp → Nat → Nat → Prop} (hp : plainName y.cls = true) (hl0 : slen av ≤ ml)
    (k : To l (cy, ml, y.cls, y.name, some .int, fr, lo) (0, argsA 0 av, [], h, 0, 0) F) {n0 : Int} (hF : ∀ r h' k z, F r h' k z → r = some (.inl n0)) : ∃ (r : Option V) (h' : Hp) (mc ms : Nat), F r h' mc ms ∧ EvE l y cy ml hh fr lo av h n0 h' mc ms := by
  obtain ⟨r, h', mc, ms, hFr, hE⟩ := k
  refine ⟨r, h', mc, ms, hFr, fun g HB => ?_⟩
  obtain rfl := hF _ _ _ _ hFr
  refine va_MetW (cc := cy) (maxL := ml) (ret := some .int) (hh := hh) hp rfl ?_
  intro p e s m args below meth c s₁ B hml hv
  obtain ⟨⟨rfl, hR0, hKA⟩, hT⟩ := hv
  have hts0 := atoms_spec (ws := mdWH y cy ml hh) B.pre
  have hC : Cx g HB p s m (av.map (dv g)).toArray meth c (cy, ml, y.cls, y.name, some .int, fr, lo) :=
    ⟨⟨B.exec, B.bytes, hml, findClass_of_methodNamed B.named, fun w hw => hts0 w (List.mem_cons_of_mem _ hw)⟩, hKA, (name_of_methodNamed B.named B.method).1, B.returns, B.notSynchronized⟩
  have hle : (lg_sl (av.map (dv g))).length ≤ ml := by rw [slen_eq]; exact hl0
  have hl := lv_entry (av.map (dv g)) hle
  rw [lg_entry_eq]
  generalize (lg_sl (av.map (dv g)) ++ List.replicate (ml - (lg_sl (av.map (dv g))).length) Slot.unset).toArray = ls at hl ⊢
  rw [← argsA_eq] at hl
  have w := hE.2 g HB p e (headSpec (mdWH y cy ml hh) { frames := fr, cells := mc, slots := ms, locals := lo }).room s m _ below meth c s.heap [] ls hC (Nat.le_refl fr) (Nat.le_refl lo) (Nat.le_refl mc) (Nat.le_refl ms) hR0 hl
  intro T hT0 X
  obtain ⟨t, a1, o, b1, b2, ⟨b3, b4⟩, b5⟩ := w T hT0 X
  exact ⟨t, a1, o, b1, b2, ⟨b3, b4⟩, b5⟩
def HOKv (l : Launch) (cy : ByteArray) (ml hpc : Nat) (n0 : Int) : Prop := ∀ (p : Program) (e : Env) (R : Room) (s : State) (m : MethodId) (args : Array Value) (below : List Frame) (meth : Method) (c : Code) (H : Heap) (locs : List Loc) (cells slots : Nat) (Q : State → Prop) (ls : Array Slot) (lv : List (Nat × Value)) (q : Nat), p.tables.exec = Jvm.exec → c.code = cy → lv_has ls ml lv →
  (∀ (pcR : Nat) (ls2 : Array Slot), decode cy pcR = .ok (.ireturn, 1) → W p l e R s m args below meth c H locs cells slots Q (F0 m pcR ls2 [.int (Int32.ofInt n0)])) → W p l e R s m args below meth c H locs cells slots Q (F0 m hpc ls [.ref q])
def hentv (l : Launch) (cy : ByteArray) (ml pcC : Nat) (n0 : Int) (z : ExceptionTableEntry) : Prop := covers z pcC = true ∧ z.catchType ≠ 0 ∧ Cond.classLink RL z.catchType (nmo z.catchType) ∈ wsG ∧ Cond.castable (nmo z.catchType) (nmo z.catchType) ∈ nwL ∧ HOKv l cy ml z.handlerPc n0
theorem eve_thr {l : Launch} {y : MethodName} {cy : ByteArray} {ml : Nat} {hh : List (Nat × Nat × Nat × Nat)} {fr lo : Nat} {av : List V} {h : Hp} (hp : plainName y.cls = true) (hown : y.cls = RL) (hl0 : slen av ≤ ml) {pcC : Nat} {L2 : LL} {st2 : List V} {h1 : Hp} {k2 z2 : Nat}
    (hs : Sx_ l (cy, ml, y.cls, y.name, some .int, fr, lo) (0, argsA 0 av, [], h, 0, 0) (pcC, L2, st2, h1, k2, z2)) {dx : MD} {npx idx frx lox a : Nat} {as r : List V} (hdx : MOK dx npx) (hclx : dx.1.cls = "MailArchive") (g1 : Cond.methodLink RL idx dx.1 ∈ wsG) (g2 : Cond.instanceMethod dx.1 ∈ wsG) (g3 : Cond.selects "MailArchive" dx.1 dx.1 ∈ wsG) (g4 : Cond.initialized "MailArchive" ∈ wsG)
    (hd : decode cy pcC = .ok (.invokevirtual idx, 3)) (hpop : popN (npx + 1) st2 [] = some (.inr (.inr a) :: as, r)) (ha : h1.2.1 a = some (.inr 9)) (h8 : slen r ≤ 8) (hfr : frx + 1 ≤ fr) (hlo : lox + (dx.2.2.1 + 19) ≤ lo) {E9 : String} {h2 : Hp} {mc ms : Nat} (hmx : EvX l dx frx lox (.inr (.inr a) :: as) h1 E9 h2 mc ms)
    {n0 : Int} (htab : ∀ z ∈ tableOf hh, hentv l cy ml pcC n0 z) (hw : ∃ z ∈ tableOf hh, nmo z.catchType = E9) : EvE l y cy ml hh fr lo av h n0 h2 (k2 + mc) (z2 + ms) := by
  intro g HB
  refine va_MetW (cc := cy) (maxL := ml) (ret := some .int) (hh := hh) hp rfl ?_
  intro p e s m args below meth c s₁ B hml hv
  obtain ⟨⟨rfl, hR0, hKA⟩, hT⟩ := hv
  have hts0 := atoms_spec (ws := mdWH y cy ml hh) B.pre
  have hfc := findClass_of_methodNamed B.named
  have hts : ∀ w ∈ wsG, w.before (av.map (dv g)).toArray s = true := fun w hw => hts0 w (List.mem_cons_of_mem _ hw)
  have hC : Cx g HB p s m (av.map (dv g)).toArray meth c (cy, ml, y.cls, y.name, some .int, fr, lo) :=
    ⟨⟨B.exec, B.bytes, hml, hfc, hts⟩, hKA, (name_of_methodNamed B.named B.method).1, B.returns, B.notSynchronized⟩
  have hle : (lg_sl (av.map (dv g))).length ≤ ml := by rw [slen_eq]; exact hl0
  have hl := lv_entry (av.map (dv g)) hle
  rw [lg_entry_eq]
  generalize (lg_sl (av.map (dv g)) ++ List.replicate (ml - (lg_sl (av.map (dv g))).length) Slot.unset).toArray = ls at hl ⊢
  rw [← argsA_eq] at hl
  refine hs.2 g HB p e (headSpec (mdWH y cy ml hh) { frames := fr, cells := k2 + mc, slots := z2 + ms, locals := lo }).room s m _ below meth c _ s.heap [] ls hC (Nat.le_refl fr) (Nat.le_refl lo) (Nat.le_add_right k2 mc) (Nat.le_add_right z2 ms) hR0 hl (fun H1 locs1 ls1 hR1 hl1 => ?_)
  obtain ⟨hst, hln⟩ := popN_st (g := g) hpop
  rw [hown] at hfc
  have ea : dv g (.inr (.inr a)) = .ref (g.1 + a) := hR1.rv ha
  have hcC : vwCl[9]? = some (RX11, TX11, 17) := rfl
  have hG : GoodIn wsG (wsV RL idx "MailArchive" dx.1 (mdW dx)) := fun w hw => by
    unfold wsV at hw
    rcases List.mem_append.mp hw with hw | hw
    · simp only [List.mem_cons, List.not_mem_nil, or_false] at hw
      rcases hw with rfl | rfl | rfl | rfl
      · exact wsG_good _ g1
      · exact wsG_good _ g2
      · exact wsG_good _ g3
      · exact wsG_good _ g4
    · exact mdW_good hdx.1 w hw
  have cw := cwV (R := { frames := fr, cells := k2 + mc, slots := z2 + ms, locals := lo }) (mc := mc) (ms := ms) (maxL := dx.2.2.1) (ret := dx.2.2.2) (bytes := dx.2.1) (ws' := wsG) (rm := { frames := frx, cells := mc, slots := ms, locals := lox }) npx hts hG rfl rfl rfl ⟨hclx, hdx.2⟩ ⟨hfr, by show 8 + (dx.2.2.1 + 11) + lox ≤ lo; omega⟩
  rw [List.map_cons, ea, List.reverse_cons, List.append_assoc] at hst
  have hpre : ∀ U : State, U.heap = H1 → s.WarmedH U.vm → PT_ g HB (.inr (.inr a) :: as) h1 ((Value.ref (g.1 + a)) :: as.map (dv g)).toArray U := fun U hU hW => ⟨by
    have h9 := pre_of (av := .inr (.inr a) :: as) hKA hR1 U hU hW
    rw [List.map_cons, ea] at h9
    exact h9, hT.warm hW⟩
  have hrun2 := vx_runV (l := l) (p := p) (e := e) (below := below) (meth := meth) (locs := locs1) (cells := k2) (slots := z2) (R := { frames := fr, cells := k2 + mc, slots := z2 + ms, locals := lo }) (g := F0 m pcC ls1 (st2.map (dv g))) (C := "MailArchive") (b := g.1 + a) (As := as.map (dv g)) (rest := r.map (dv g)) ⟨B.exec, B.bytes, hml, hfc, hts⟩ (hmx g HB) cw ⟨PT_.blind _ _ _ _, va_recv (q0 := 0) hKA.1 (va_P1 (hR1.obj ha)) hcC rfl, hpre⟩ rfl (Nat.succ.inj hln) hl1.1 hst (room8 g h8) hd ⟨Nat.le_refl _, Nat.le_refl _⟩
  intro T hT0 X
  rcases hrun2 T hT0 X with ⟨v, st₀, t, T2, L, h0, X2, hL, e1, e2, hq0, st⟩ | ⟨q9, st₀, t, T2, L, E, ce, h0, X2, hL, e1, e2, hxt, hce, hcv, hcl, st⟩
  · exact hq0.elim
  · obtain ⟨rfl, hRj⟩ := hxt
    have key := catch_any (l := l) (own := RL) (E := E) (ce := ce) (q := q9) (H := T2.heap) (locs := locs1 ++ L) (cells := k2 + mc) (slots := z2 + ms) (pc := pcC) (ls := ls1) (rest := r.map (dv g)) (below := below) (meth := meth) (e := e) (p := p) (c := c) (s := s) (m := m) (args := (av.map (dv g)).toArray)
      (R := (headSpec (mdWH y cy ml hh) { frames := fr, cells := k2 + mc, slots := z2 + ms, locals := lo }).room)
      (Q := MQ below (QE g HB n0 h2) (av.map (dv g)).toArray s (k2 + mc) (z2 + ms) (hiA g)) nmo hfc (by rw [e1]; exact hce) hcv hcl (tableOf hh) [] (vx_table (x := y) B (hts0 _ List.mem_cons_self)) (fun z hz => by cases hz) (fun z hz => by
        obtain ⟨z1, z2, z3, z4, z5⟩ := htab z hz
        refine ⟨z1, z2, hts _ z3, ?_, z5 p e _ s m _ below meth c _ _ _ _ _ ls1 _ q9 B.exec B.bytes hl1 (fun pcR ls2 hde => W.iret B.exec B.bytes B.returns (fun t9 ht9 _ => ⟨rfl, by rw [ht9, e1]; exact hRj⟩) (fun w hw => by
          rcases List.mem_append.mp hw with hw | hw
          · exact hR1.2.2.2.2 w hw
          · exact hL w hw) hde B.notSynchronized)⟩
        obtain ⟨c9, t9, f1, f2, f3⟩ := Cond.castable_spec (va_Nw.use (A := (av.map (dv g)).toArray) rfl (hKA.2.1 _ z4))
        exact ⟨c9, f1⟩) (by
        obtain ⟨z, hz, ez⟩ := hw
        obtain ⟨z1, z2, z3, z4, z5⟩ := htab z hz
        rw [ez] at z4
        exact ⟨z, hz, by rw [ez]; exact va_Nw.use rfl (hKA.2.1 _ z4)⟩)
    obtain ⟨t2, a1, b1⟩ := key T2 rfl X2
    exact ⟨t2, st.trans a1, b1⟩

theorem i2l_i32 {x : Int} (hx : I32 x) : (Int32.ofInt x).toInt64 = Int64.ofInt x := by
  have h1 : (Int32.ofInt x).toInt64.toInt = x := by rw [Int32.toInt_toInt64]; exact tI_of hx
  have h2 := Int64.ofInt_toInt (Int32.ofInt x).toInt64
  rw [h1] at h2
  exact h2.symm
theorem i64_inj {x y : Int} (hx : I32 x) (hy : I32 y) (h : Int64.ofInt x = Int64.ofInt y) : x = y := by
  rw [← i2l_i32 hx, ← i2l_i32 hy] at h
  have h1 : (Int32.ofInt x).toInt64.toInt = (Int32.ofInt y).toInt64.toInt := by rw [h]
  rw [Int32.toInt_toInt64, Int32.toInt_toInt64, tI_of hx, tI_of hy] at h1
  exact h1
theorem cmp_eq {a b : Int64} : lg_cmp a b = 0 ↔ a = b := by
  unfold lg_cmp
  by_cases h1 : a > b
  · rw [if_pos h1]
    exact ⟨fun h => absurd h (by decide), fun h => by subst h; exact absurd h1 (Int64.lt_irrefl)⟩
  · by_cases h2 : a = b
    · rw [if_neg h1, if_pos h2]
      exact ⟨fun _ => h2, fun _ => rfl⟩
    · rw [if_neg h1, if_neg h2]
      exact ⟨fun h => absurd h (by decide), fun h => absurd h h2⟩
section TGX
variable {l : Launch} {E : ME} {pc : Nat} {L : LL} {st : List V} {h : Hp} {k z : Nat} {Tp : Cfg → Prop} {F : Option V → Hp → Nat → Nat → Prop}
theorem to_i2lx {x : Int} (hx : I32 x) (hd : decode E.1 pc = .ok (.i2l, 1)) (k0 : To l E (pc + 1, L, .inr (.inl x) :: st, h, k, z) F) : To l E (pc, L, .inl x :: st, h, k, z) F :=
  to_of (sx_pure (fun g HB p e R s m args below meth c Q H locs ls hC hl kk => lv_i2l hC.1.1 hC.1.2.1 hd (i2l_i32 hx) (kk ls hl))) k0
theorem tg_i2lx (hT : Gn l E Tp) {x : Int} (hx : I32 x) (hd : decode E.1 pc = .ok (.i2l, 1)) (k0 : Tp (pc + 1, L, .inr (.inl x) :: st, h, k, z)) : Tp (pc, L, .inl x :: st, h, k, z) :=
  hT.of (sx_pure (fun g HB p e R s m args below meth c Q H locs ls hC hl kk => lv_i2l hC.1.1 hC.1.2.1 hd (i2l_i32 hx) (kk ls hl))) k0
theorem tg_lcmpx (hT : Gn l E Tp) {x y : Int} (hx : I32 x) (hy : I32 y) (hd : decode E.1 pc = .ok (.lcmp, 1)) (k0 : ∀ n : Int, I32 n → (n = 0 ↔ x = y) → Tp (pc + 1, L, .inl n :: st, h, k, z)) : Tp (pc, L, .inr (.inl y) :: .inr (.inl x) :: st, h, k, z) :=
  tg_someI hT (P := fun n => n = 0 ↔ x = y) (lg_cmp (Int64.ofInt x) (Int64.ofInt y)) (by
    constructor
    · intro h
      have h1 : lg_cmp (Int64.ofInt x) (Int64.ofInt y) = 0 := Int32.toInt_inj.mp (h.trans (by decide))
      exact i64_inj hx hy (cmp_eq.mp h1)
    · intro h
      subst h
      rw [cmp_eq.mpr rfl]
      rfl) (fun g HB p e R s m args below meth c Q H locs ls hC hl kk => W.lcmp hC.1.1 hC.1.2.1 hd kk) k0
end TGX
theorem hentv_add (l : Launch) : ∀ z ∈ tableOf [((0 : Nat), (8 : Nat), (11 : Nat), (13 : Nat))], hentv l cL_add 3 3 1 z := by
  intro z hz
  cases List.mem_singleton.mp hz
  exact ⟨rfl, by decide, tin 3 77 (by decide +kernel) rfl, tinN 3 84 (by decide +kernel) rfl, fun p e R s m args below meth c H locs cells slots Q ls lv q hx hb hl kk => lv_astore_n hx hb (i := 2) (dat dk_L_add 7 rfl) rfl hl (by decide) rfl (fun ls' _ => lv_iconst hx hb (dat dk_L_add 8 rfl) rfl (kk _ ls' (dat dk_L_add 9 rfl)))⟩
theorem hentv_remove (l : Launch) : ∀ z ∈ tableOf [((0 : Nat), (5 : Nat), (8 : Nat), (19 : Nat))], hentv l cL_remove 3 2 1 z := by
  intro z hz
  cases List.mem_singleton.mp hz
  exact ⟨rfl, by decide, tin 5 147 (by decide +kernel) rfl, tinN 5 154 (by decide +kernel) rfl, fun p e R s m args below meth c H locs cells slots Q ls lv q hx hb hl kk => lv_astore_n hx hb (i := 2) (dat dk_L_remove 4 rfl) rfl hl (by decide) rfl (fun ls' _ => lv_iconst hx hb (dat dk_L_remove 5 rfl) rfl (kk _ ls' (dat dk_L_remove 6 rfl)))⟩
set_option maxRecDepth 100000 in
theorem hlx_add (l : Launch) (hst0 : l.stackTraces = false) (h : Hp) (hI : Inv h) (g0 : Bks h) (g1 : WT h ≤ 9000000) (g2 : ET h ≤ 3000000) (g3 : h.1 ≤ 800000) :
    ∃ (n0 : Int) (H : Hp) (mc ms : Nat), (Inv H ∧ Fr SADD h H ∧ ENL h H mc ms 1417 5820 1507 ∧ ((n0 = 0 ∧ H.2.2 105 0 = h.2.2 1 15) ∧ (H.2.2 4 1 = 0 ∧ H.2.2 26 2 = h.2.2 26 2 + 1 ∧ (h.2.2 26 2 ≤ 59 ∧ h.2.2 1 15 ≤ 199 ∧ H.2.2 1 15 = h.2.2 1 15 + 1) ∧ nums H = nums h ++ [h.2.2 1 15]) ∨ n0 = 1 ∧ (H.2.2 4 1 = h.2.2 4 1 ∧ H.2.2 26 2 = h.2.2 26 2 ∧ (60 ≤ h.2.2 26 2 ∨ 200 ≤ h.2.2 1 15) ∧ H.2.2 1 15 = h.2.2 1 15 ∧ nums H = nums h))) ∧ EvE l yL_add cL_add 3 [(0, 8, 11, 13)] 12 300 [.inr (.inr 1), .inr (.inr 105)] h n0 H mc ms := by
  have tv := hI.atS (a := 105) rfl
  have t1 := hI.atS (a := 1) rfl
  rcases tx_X11_add_vx l hst0 h hI g0 g1 g2 g3 with hc | ⟨E9, h1, k1, z1, ⟨p1, p2, p3, rfl, rfl, p4, p5, p6, p7, p8, p9⟩, hE⟩
  · have w : To l E_L_add (0, [(0, .inr (.inr 1)), (1, .inr (.inr 105))], [], h, 0, 0) (RIa (fun x H mc ms => x = 0 ∧ H.2.2 105 0 = h.2.2 1 15 ∧ Inv H ∧ Fr SADD h H ∧ ENL h H mc ms 1417 5820 1507 ∧ (H.2.2 4 1 = 0 ∧ H.2.2 26 2 = h.2.2 26 2 + 1 ∧ (h.2.2 26 2 ≤ 59 ∧ h.2.2 1 15 ≤ 199 ∧ H.2.2 1 15 = h.2.2 1 15 + 1) ∧ nums H = nums h ++ [h.2.2 1 15]))) := by
      refine to_aload_np (dat dk_L_add 0 rfl) (by omega) rfl (to_iconst (dat dk_L_add 1 rfl) (to_aload_n (dat dk_L_add 2 rfl) rfl ?_))
      refine to_cIa ca_c12_7 (dat dk_L_add 3 rfl) hc rfl ⟨_, _, rfl, t1⟩ rfl (fun x H mc ms rx p => ?_)
      obtain ⟨q1, q2, q3, q4, q5, q6, q7, q8⟩ := p
      have tv1 := (q2.1.2 _ (hI.ltN tv)).trans tv
      obtain ⟨w9, ew9⟩ : ∃ w : Int, x = w := ⟨_, rfl⟩
      rw [ew9]
      refine to_i2lx (by rw [← ew9]; exact rx) (dat dk_L_add 4 rfl) (to_lastw (dat dk_L_add 5 rfl) tv1 rfl (by decide) (by decide) (fun H2 e2 => ?_))
      obtain ⟨r1, r2, r3⟩ := row105 (S := SADD) (x := w9) q1 (Fr.sub (Fr.rf _ _) q2 rfl) q3 (by decide +kernel)
      have e2 : H2 = wr H 105 0 w9 := e2
      refine to_goto (t := 14) (dat dk_L_add 6 rfl) rfl (to_iconst (dat dk_L_add 10 rfl) ?_)
      rw [Nat.zero_add, Nat.zero_add]
      exact to_iret rfl (dat dk_L_add 11 rfl) (ri_mka (by decide) ⟨rfl, by rw [e2, wr_eq, ← ew9]; exact q8, by rw [e2]; exact r1, by rw [e2]; exact r2, by rw [e2]; exact ENL.mono r3 (by omega) (by omega) (by omega), by rw [e2, wr_ne (by omega)]; exact q4, by rw [e2, wr_ne (by omega)]; exact q5, ⟨q6.1, q6.2.1, by rw [e2, wr_ne (by omega)]; exact q6.2.2⟩, (nums_fr (S := [105]) (by rw [e2]; exact fr_wr [105] rfl) q1 rfl).trans q7⟩)
    obtain ⟨r, H, mc, ms, ⟨x, -, -, q0, q9, q1, q2, q3, q4⟩, hE⟩ := eve_of (n0 := 0) (y := yL_add) (cy := cL_add) (ml := 3) (fr := 12) (lo := 300) (av := [.inr (.inr 1), .inr (.inr 105)]) (h := h) (hh := [(0, 8, 11, 13)]) pn_L_add (Nat.le_of_ble_eq_true rfl) w (fun r h' k z q => by obtain ⟨x, q, -, q0, -⟩ := q; rw [q, q0])
    exact ⟨0, H, mc, ms, ⟨q1, q2, q3, Or.inl ⟨⟨rfl, q9⟩, q4⟩⟩, hE⟩
  · have hs : Sx_ l E_L_add (0, [(0, .inr (.inr 1)), (1, .inr (.inr 105))], [], h, 0, 0) (3, [(0, .inr (.inr 1)), (1, .inr (.inr 105))], [.inr (.inr 1), .inl 0, .inr (.inr 105)], h, 0, 0) := by
      refine pre_sx ?_
      refine tg_aload_np Tx.gn (dat dk_L_add 0 rfl) (by omega) rfl (tg_iconst Tx.gn (dat dk_L_add 1 rfl) (tg_aload_n Tx.gn (dat dk_L_add 2 rfl) rfl ?_))
      exact Or.inr ⟨_, rfl, sx_rfl _⟩
    have h9 := p2.1.2.1
    have e := p4.2.2.1
    have k := eve_thr (n0 := 1) (y := yL_add) (cy := cL_add) (ml := 3) (fr := 12) (lo := 300) (av := [.inr (.inr 1), .inr (.inr 105)]) (h := h) (st2 := [.inr (.inr 1), .inl 0, .inr (.inr 105)]) (as := []) (r := [.inl 0, .inr (.inr 105)]) (hh := [(0, 8, 11, 13)]) (npx := 0) pn_L_add rfl (Nat.le_of_ble_eq_true rfl) hs mok_X11_add rfl (tin 3 78 (by decide +kernel) rfl) (tin 3 79 (by decide +kernel) rfl) (tin 3 80 (by decide +kernel) rfl) (tin 1 1 (by decide +kernel) rfl) (dat dk_L_add 3 rfl) rfl t1 (Nat.le_of_ble_eq_true rfl) (by decide) (by decide) hE (hentv_add l) ⟨_, List.mem_singleton.mpr rfl, p1.symm⟩
    exact ⟨1, _, _, _, ⟨p2.xh (by omega), Fr.xh (Fr.sub (Fr.rf _ _) p3 rfl) rfl, ENL.mono (p4.xh (by decide)) (by omega) (by omega) (by omega), Or.inr ⟨rfl, p5, p6, p7, p8, p9⟩⟩, k⟩

set_option maxRecDepth 100000 in
theorem hlx_remove (l : Launch) (hst0 : l.stackTraces = false) (h : Hp) (hI : Inv h) (g0 : Bks h) (g3 : h.1 ≤ 800000) (n : Int) (hn : I32 n) :
    ∃ (n0 : Int) (H : Hp) (mc ms : Nat), (Inv H ∧ Fr SREM h H ∧ ENL h H mc ms 0 0 7 ∧ H.2.2 4 1 = h.2.2 4 1 ∧ ((n0 = 0 ∧ H.2.2 26 2 = h.2.2 26 2 - 1 ∧ ∃ i : Nat, (nums h)[i]? = some n ∧ nums H = (nums h).eraseIdx i) ∨ (n0 = 1 ∧ H.2.2 26 2 = h.2.2 26 2 ∧ n ∉ nums h ∧ nums H = nums h))) ∧ EvE l yL_remove cL_remove 3 [(0, 5, 8, 19)] 8 300 [.inr (.inr 1), .inl n] h n0 H mc ms := by
  have t1 := hI.atS (a := 1) rfl
  have e00 : ENL h h 0 0 0 0 0 := ENL.rf g0 (by decide) (by decide) (by decide)
  rcases tx_X11_remove l hst0 h hI n hn with hc | ⟨E9, h1, k1, z1, ⟨p1, p2, p3, rfl, rfl, p5, p6, p7, p8⟩, hE⟩
  · have w : To l E_L_remove (0, [(0, .inr (.inr 1)), (1, .inl n)], [], h, 0, 0) (RIa (fun x H mc ms => x = 0 ∧ Inv H ∧ Fr SREM h H ∧ ENL h H mc ms 0 0 7 ∧ H.2.2 4 1 = h.2.2 4 1 ∧ ((H.2.2 26 2 = h.2.2 26 2 - 1 ∧ ∃ i : Nat, (nums h)[i]? = some n ∧ nums H = (nums h).eraseIdx i)))) := by
      refine to_aload_n (dat dk_L_remove 0 rfl) rfl (to_iload_n (dat dk_L_remove 1 rfl) rfl ?_)
      refine to_cV ca_c12_15 (dat dk_L_remove 2 rfl) hc rfl ⟨_, _, rfl, t1⟩ rfl (fun H p => ?_)
      obtain ⟨q1, q2, q3, q4, q5⟩ := p
      have e1 := ENL.fr e00 q2 hI rfl
      refine to_goto (t := 11) (dat dk_L_remove 3 rfl) rfl (to_iconst (dat dk_L_remove 7 rfl) ?_)
      exact to_iret rfl (dat dk_L_remove 8 rfl) (ri_mka (by decide) ⟨rfl, q1, Fr.sub (Fr.rf _ _) q2 rfl, ENL.mono e1 (by decide) (by decide) (by decide), q3, ⟨q4, q5⟩⟩)
    obtain ⟨r, H, mc, ms, ⟨x, -, -, q0, q⟩, hE⟩ := eve_of (n0 := 0) (y := yL_remove) (cy := cL_remove) (ml := 3) (fr := 8) (lo := 300) (av := [.inr (.inr 1), .inl n]) (h := h) (hh := [(0, 5, 8, 19)]) pn_L_remove (Nat.le_of_ble_eq_true rfl) w (fun r h' k z q => by obtain ⟨x, q, -, q0, -⟩ := q; rw [q, q0])
    exact ⟨0, H, mc, ms, ⟨q.1, q.2.1, q.2.2.1, q.2.2.2.1, Or.inl ⟨rfl, q.2.2.2.2⟩⟩, hE⟩
  · have hs : Sx_ l E_L_remove (0, [(0, .inr (.inr 1)), (1, .inl n)], [], h, 0, 0) (2, [(0, .inr (.inr 1)), (1, .inl n)], [.inl n, .inr (.inr 1)], h, 0, 0) := by
      refine pre_sx ?_
      refine tg_aload_n Tx.gn (dat dk_L_remove 0 rfl) rfl (tg_iload_n Tx.gn (dat dk_L_remove 1 rfl) rfl ?_)
      exact Or.inr ⟨_, rfl, sx_rfl _⟩
    have h9 := p2.1.2.1
    have e1 := ENL.fr e00 p3 hI rfl
    have k := eve_thr (n0 := 1) (y := yL_remove) (cy := cL_remove) (ml := 3) (fr := 8) (lo := 300) (av := [.inr (.inr 1), .inl n]) (h := h) (st2 := [.inl n, .inr (.inr 1)]) (as := [.inl n]) (r := []) (hh := [(0, 5, 8, 19)]) (npx := 1) pn_L_remove rfl (Nat.le_of_ble_eq_true rfl) hs mok_X11_remove rfl (tin 5 148 (by decide +kernel) rfl) (tin 5 149 (by decide +kernel) rfl) (tin 5 150 (by decide +kernel) rfl) (tin 1 1 (by decide +kernel) rfl) (dat dk_L_remove 2 rfl) rfl t1 (Nat.le_of_ble_eq_true rfl) (by decide) (by decide) hE (hentv_remove l) ⟨_, List.mem_singleton.mpr rfl, p1.symm⟩
    have e9 := e1.2.2.1
    exact ⟨1, _, _, _, ⟨p2.xh (by omega), Fr.xh (Fr.sub (Fr.rf _ _) p3 rfl) rfl, ENL.mono (e1.xh (by decide)) (by decide) (by decide) (by decide), p5, Or.inr ⟨rfl, p6, p7, p8⟩⟩, k⟩
