/-! Calls. -/
theorem PP.blind (g : GG) (HB : Heap) (av : List V) (h : Hp) : FrameBlind (PP g HB av h) := by
  intro a U fr mk q
  obtain ⟨q0, qR, qK⟩ := q
  exact ⟨q0, qR, KA.same (s := U) (U := U.calling fr mk a) rfl qK⟩
theorem wsG_good : GoodIn wsG wsG := fun w hw => ⟨hw, good_of_word (List.mem_filter.mp hw).2⟩
/-- what a called method must be -/
def MOK (d : MD) (np : Nat) : Prop := Cond.code d.1 d.2.1 d.2.2.1 d.2.2.2 ∈ wsG ∧ d.1.cls ≠ "java/lang/invoke/MethodHandle" ∧ d.1.cls ≠ "java/lang/invoke/VarHandle" ∧ (parseMethodDescriptor d.1.desc).map (fun d => d.parameters.length) = some np
theorem mdW_good {d : MD} (h : Cond.code d.1 d.2.1 d.2.2.1 d.2.2.2 ∈ wsG) : GoodIn wsG (mdW d) := fun w hw => by
  rcases List.mem_cons.mp hw with rfl | hw
  · exact wsG_good _ h
  · exact wsG_good _ hw
def popN (n : Nat) (st acc : List V) : Option (List V × List V) := match n with
  | 0 => some (acc, st)
  | n + 1 => match st with
    | [] => none
    | v :: r => popN n r (v :: acc)
theorem popN_ok : ∀ (n : Nat) (st acc as r : List V), popN n st acc = some (as, r) → ∃ tk : List V, st = tk ++ r ∧ as = tk.reverse ++ acc ∧ tk.length = n
  | 0, st, acc, as, r, h => by
    cases h
    exact ⟨[], rfl, rfl, rfl⟩
  | n + 1, [], acc, as, r, h => by cases h
  | n + 1, v :: st, acc, as, r, h => by
    obtain ⟨tk, h1, h2, h3⟩ := popN_ok n st (v :: acc) as r h
    exact ⟨v :: tk, by rw [h1]; rfl, by rw [h2]; simp, by simp [h3]⟩
theorem popN_st {g : GG} {n : Nat} {st as r : List V} (h : popN n st [] = some (as, r)) : st.map (dv g) = (as.map (dv g)).reverse ++ r.map (dv g) ∧ (as.map (dv g)).length = n := by
  obtain ⟨tk, h1, h2, h3⟩ := popN_ok n st [] as r h
  subst h1
  rw [h2, List.append_nil]
  constructor
  · rw [List.map_append, List.map_reverse, List.reverse_reverse]
  · rw [List.length_map, List.length_reverse, h3]
/-- the receiver: 0 none; 1 any reference; 10 + c an object of class c; else outside, of the class of a text -/
def Recv (kd : Nat) (h : Hp) (av : List V) : Prop := match kd with
  | 0 => True
  | 1 => ∃ (a : Nat) (t : Ty) (as : List V), av = .inr (.inr a) :: as ∧ h.2.1 a = some t
  | 2 => ∃ (q : Nat) (as : List V), av = .inr (.inr (1000000 + q)) :: as ∧ (q, "java/lang/String") ∈ xO
  | c + 3 => ∃ (a : Nat) (as : List V), av = .inr (.inr a) :: as ∧ h.2.1 a = some (.inr c)
def CallOK (own : String) (op : Instr) (kd : Nat) (d : MD) (np : Nat) : Prop := ∀ (p : Program) (l : Launch) (e : Env) (R : Room) (s : State) (m : MethodId) (args : Array Value) (below : List Frame) (meth : Method) (c : Code) (cc : ByteArray) (nL : Nat) (H : Heap) (locs : List Loc) (cells slots : Nat) (Q : State → Prop) (g : GG) (HB : Heap) (pc fr lo mc ms : Nat) (ls : Array Slot) (st av r : List V) (h h' : Hp) (rv : Option V),
  CallFix p m c cc nL s args wsG own → KA g HB s → Rep g HB h H locs → ls.size = nL → Recv kd h av → popN np st [] = some (av, r) → fr + 1 ≤ R.frames → lo + (d.2.2.1 + 19) ≤ R.locals → slen r ≤ 8 → cells + mc ≤ R.cells ∧ slots + ms ≤ R.slots → decode cc pc = .ok (op, 3) → Ev l d fr lo av h rv h' mc ms →
    (∀ (H1 : Heap) (locs1 : List Loc), Rep g HB h' H1 locs1 → W p l e R s m args below meth c H1 locs1 (cells + mc) (slots + ms) Q (F0 m (pc + 3) ls ((rv.map (dv g)).toList ++ r.map (dv g)))) →
      W p l e R s m args below meth c H locs cells slots Q (F0 m pc ls (st.map (dv g)))
section CAL
variable {own : String} {idx np : Nat} {d : MD}
theorem sim_call {p : Program} {l : Launch} {e : Env} {R : Room} {s : State} {m : MethodId} {args : Array Value} {below : List Frame} {meth : Method} {c : Code} {H : Heap} {locs : List Loc} {cells slots : Nat} {Q : State → Prop} {g : GG} {HB : Heap} {rv : Option V} {h' : Hp} {mc ms pc : Nat} {ls : Array Slot} {st0 rest : List Value} {a : Array Value}
    (hr : va_Run p l e R s m args below meth c H locs cells slots mc ms (F0 m pc ls st0) rest (QR g HB rv h' a) (hiA g)) (hL : ∀ q ∈ locs, hiA g q.base)
    (kk : ∀ (H1 : Heap) (locs1 : List Loc), Rep g HB h' H1 locs1 → W p l e R s m args below meth c H1 locs1 (cells + mc) (slots + ms) Q (F0 m (pc + 3) ls ((rv.map (dv g)).toList ++ rest))) : W p l e R s m args below meth c H locs cells slots Q (F0 m pc ls st0) := by
  intro T hT X
  obtain ⟨v, st₀, t, T', L, h0, X', hL2, e1, e2, ⟨hv, hR⟩, st⟩ := hr T hT X
  have hv : v = rv.map (dv g) := by cases hv; rfl
  subst hv
  obtain ⟨t2, a1, b1⟩ := kk T'.heap (locs ++ L) (by
    rw [e1]
    exact ⟨hR.1, hR.2.1, hR.2.2.1, hR.2.2.2.1, fun q hq => by
      rcases List.mem_append.mp hq with h | h
      · exact hL q h
      · exact hL2 q h⟩) T' rfl X'
  exact ⟨t2, st t2 a1, b1⟩
theorem pre_of {g : GG} {HB : Heap} {s : State} {H : Heap} {h : Hp} {locs : List Loc} {av : List V} (hA : KA g HB s) (hR : Rep g HB h H locs) : ∀ U : State, U.heap = H → s.WarmedH U.vm → PP g HB av h (av.map (dv g)).toArray U :=
  fun U hU hW => ⟨rfl, by rw [hU]; exact hR.nolocs, hA.warm hW⟩
theorem co_S (hd0 : MOK d np) (h1 : Cond.methodLink own idx d.1 ∈ wsG) (h2 : Cond.static d.1 ∈ wsG) (h3 : Cond.initialized d.1.cls ∈ wsG) : CallOK own (.invokestatic idx) 0 d np := by
  intro p l e R s m args below meth c cc nL H locs cells slots Q g HB pc fr lo mc ms ls st av r h h' rv hC hA hR hl _ hp hfr hlo h8 hroom hd hE kk
  obtain ⟨hx, hb, hml, hown, hts⟩ := hC
  obtain ⟨hst, hln⟩ := popN_st (g := g) hp
  have hG : GoodIn wsG (va_wsS own idx d.1 (mdW d)) := fun w hw => by
    unfold va_wsS at hw
    rcases List.mem_append.mp hw with hw | hw
    · simp only [List.mem_cons, List.not_mem_nil, or_false] at hw
      rcases hw with rfl | rfl | rfl
      · exact wsG_good _ h1
      · exact wsG_good _ h2
      · exact wsG_good _ h3
    · exact mdW_good hd0.1 w hw
  have cw := va_cwS (R := R) (mc := mc) (ms := ms) (maxL := d.2.2.1) (ret := d.2.2.2) (bytes := d.2.1) (ws' := wsG) (rm := { frames := fr, cells := mc, slots := ms, locals := lo }) np hts hG rfl rfl rfl hd0.2 ⟨hfr, by show 8 + (d.2.2.1 + 11) + lo ≤ R.locals; omega⟩
  exact sim_call (va_runS (g := F0 m pc ls (st.map (dv g))) (As := av.map (dv g)) (rest := r.map (dv g)) ⟨hx, hb, hml, hown, hts⟩ (hE g HB) cw ⟨PP.blind _ _ _ _, pre_of hA hR⟩ rfl hln hl hst (room8 g h8) hd hroom) hR.2.2.2.2 kk
/-- a constructor's call -/
theorem co_I (hd0 : MOK d np) (hret : d.2.2.2 = none) (hin : d.1.name = "<init>") (h1 : Cond.methodLink own idx d.1 ∈ wsG) (h2 : Cond.instanceMethod d.1 ∈ wsG) (h3 : Cond.initialized d.1.cls ∈ wsG) : CallOK own (.invokespecial idx) 1 d (np + 1) := by
  intro p l e R s m args below meth c cc nL H locs cells slots Q g HB pc fr lo mc ms ls st av r h h' rv hC hA hR hl hrc hp hfr hlo h8 hroom hd hE kk
  obtain ⟨a, t, as, rfl, ht⟩ := hrc
  obtain ⟨hx, hb, hml, hown, hts⟩ := hC
  obtain ⟨hst, hln⟩ := popN_st (g := g) hp
  have ea : dv g (.inr (.inr a)) = .ref (g.1 + a) := hR.rv ht
  have hcode := hd0.1
  rw [hret] at hcode
  have cw := cwI (R := R) (mc := mc) (ms := ms) (maxL := d.2.2.1) (bytes := d.2.1) (ws := mdW d) (ws' := wsG) (rm := { frames := fr, cells := mc, slots := ms, locals := lo }) np hts (mdW_good hd0.1) (by unfold mdW; rw [hret]) rfl rfl (hts _ h3) (hts _ h1) (hts _ h2) hin hd0.2 ⟨hfr, by show 8 + (d.2.2.1 + 11) + lo ≤ R.locals; omega⟩
  have hpre := pre_of (av := .inr (.inr a) :: as) hA hR
  rw [List.map_cons, ea] at hpre
  rw [List.map_cons, ea, List.reverse_cons, List.append_assoc] at hst
  refine sim_call (va_runI (g := F0 m pc ls (st.map (dv g))) (b := g.1 + a) (As := as.map (dv g)) (rest := r.map (dv g)) ⟨hx, hb, hml, hown, hts⟩ (hE g HB) cw ⟨PP.blind _ _ _ _, hpre⟩ rfl (Nat.succ.inj hln) hl hst (room8 g h8) hd hroom) hR.2.2.2.2 kk
theorem co_IN {host : String} (hd0 : MOK d np) (hret : d.2.2.2 = none) (hin : d.1.name = "<init>") (h1 : Cond.methodLinkNest own idx d.1 host ∈ nwL) (h2 : Cond.instanceMethod d.1 ∈ wsG) (h3 : Cond.initialized d.1.cls ∈ wsG) : CallOK own (.invokespecial idx) 1 d (np + 1) := by
  intro p l e R s m args below meth c cc nL H locs cells slots Q g HB pc fr lo mc ms ls st av r h h' rv hC hA hR hl hrc hp hfr hlo h8 hroom hd hE kk
  obtain ⟨a, t, as, rfl, ht⟩ := hrc
  obtain ⟨hx, hb, hml, hown, hts⟩ := hC
  obtain ⟨hst, hln⟩ := popN_st (g := g) hp
  have ea : dv g (.inr (.inr a)) = .ref (g.1 + a) := hR.rv ht
  have cw := va_cnB (R := R) (mc := mc) (ms := ms) (maxL := d.2.2.1) (ret := none) (bytes := d.2.1) (ws := mdW d) (ws' := wsG) (rm := { frames := fr, cells := mc, slots := ms, locals := lo }) np hts (mdW_good hd0.1) (by unfold mdW; rw [hret]) rfl rfl (hA.2.1 _ h1) (hts _ h3) hd0.2 ⟨hfr, by show 8 + (d.2.2.1 + 11) + lo ≤ R.locals; omega⟩
  have hpre := pre_of (av := .inr (.inr a) :: as) hA hR
  rw [List.map_cons, ea] at hpre
  rw [List.map_cons, ea, List.reverse_cons, List.append_assoc] at hst
  refine sim_call (va_runIN (g := F0 m pc ls (st.map (dv g))) (b := g.1 + a) (As := as.map (dv g)) (rest := r.map (dv g)) ⟨hx, hb, hml, hown, hts⟩ (hE g HB) ⟨cw, hin, hts _ h2⟩ ⟨PP.blind _ _ _ _, hpre⟩ rfl (Nat.succ.inj hln) hl hst (room8 g h8) hd hroom) hR.2.2.2.2 kk
/-- a call of an object's method -/
theorem co_V {ci : Nat} {C : String} {T : u_T} {N : Nat} (hc : vwCl[ci]? = some (C, T, N)) (hd0 : MOK d np) (hcls : d.1.cls = C) (h1 : Cond.methodLink own idx d.1 ∈ wsG) (h2 : Cond.instanceMethod d.1 ∈ wsG) (h3 : Cond.selects C d.1 d.1 ∈ wsG) (h4 : Cond.initialized C ∈ wsG) : CallOK own (.invokevirtual idx) (ci + 3) d (np + 1) := by
  intro p l e R s m args below meth c cc nL H locs cells slots Q g HB pc fr lo mc ms ls st av r h h' rv hC hA hR hl hrc hp hfr hlo h8 hroom hd hE kk
  obtain ⟨a, as, rfl, ht⟩ := hrc
  obtain ⟨hx, hb, hml, hown, hts⟩ := hC
  obtain ⟨hst, hln⟩ := popN_st (g := g) hp
  have ea : dv g (.inr (.inr a)) = .ref (g.1 + a) := hR.rv ht
  have hG : GoodIn wsG (wsV own idx C d.1 (mdW d)) := fun w hw => by
    unfold wsV at hw
    rcases List.mem_append.mp hw with hw | hw
    · simp only [List.mem_cons, List.not_mem_nil, or_false] at hw
      rcases hw with rfl | rfl | rfl | rfl
      · exact wsG_good _ h1
      · exact wsG_good _ h2
      · exact wsG_good _ h3
      · exact wsG_good _ h4
    · exact mdW_good hd0.1 w hw
  have cw := cwV (R := R) (mc := mc) (ms := ms) (maxL := d.2.2.1) (ret := d.2.2.2) (bytes := d.2.1) (ws' := wsG) (rm := { frames := fr, cells := mc, slots := ms, locals := lo }) np hts hG rfl rfl rfl ⟨hcls, hd0.2⟩ ⟨hfr, by show 8 + (d.2.2.1 + 11) + lo ≤ R.locals; omega⟩
  have hpre := pre_of (av := .inr (.inr a) :: as) hA hR
  rw [List.map_cons, ea] at hpre
  rw [List.map_cons, ea, List.reverse_cons, List.append_assoc] at hst
  have hE2 := hE g HB
  unfold PP at hE2 hpre
  rw [List.map_cons, ea] at hE2
  refine sim_call (va_runV (g := F0 m pc ls (st.map (dv g))) (C := C) (b := g.1 + a) (As := as.map (dv g)) (rest := r.map (dv g)) ⟨hx, hb, hml, hown, hts⟩ (hE g HB) cw ⟨PP.blind _ _ _ _, va_recv (q0 := 0) hA.1 (va_P1 (hR.obj ht)) hc rfl, hpre⟩ rfl (Nat.succ.inj hln) hl hst (room8 g h8) hd hroom) hR.2.2.2.2 kk
theorem co_VN {ci : Nat} {C host : String} {T : u_T} {N : Nat} (hc : vwCl[ci]? = some (C, T, N)) (hd0 : MOK d np) (h1 : Cond.methodLinkNest own idx d.1 host ∈ nwL) (h2 : Cond.instanceMethod d.1 ∈ wsG) (h3 : Cond.selects C d.1 d.1 ∈ wsG) (h4 : Cond.initialized d.1.cls ∈ wsG) : CallOK own (.invokevirtual idx) (ci + 3) d (np + 1) := by
  intro p l e R s m args below meth c cc nL H locs cells slots Q g HB pc fr lo mc ms ls st av r h h' rv hC hA hR hl hrc hp hfr hlo h8 hroom hd hE kk
  obtain ⟨a, as, rfl, ht⟩ := hrc
  obtain ⟨hx, hb, hml, hown, hts⟩ := hC
  obtain ⟨hst, hln⟩ := popN_st (g := g) hp
  have ea : dv g (.inr (.inr a)) = .ref (g.1 + a) := hR.rv ht
  have cw := va_cnB (R := R) (mc := mc) (ms := ms) (maxL := d.2.2.1) (ret := d.2.2.2) (bytes := d.2.1) (ws := mdW d) (ws' := wsG) (rm := { frames := fr, cells := mc, slots := ms, locals := lo }) np hts (mdW_good hd0.1) rfl rfl rfl (hA.2.1 _ h1) (hts _ h4) hd0.2 ⟨hfr, by show 8 + (d.2.2.1 + 11) + lo ≤ R.locals; omega⟩
  have hpre := pre_of (av := .inr (.inr a) :: as) hA hR
  rw [List.map_cons, ea] at hpre
  rw [List.map_cons, ea, List.reverse_cons, List.append_assoc] at hst
  refine sim_call (va_runVN (g := F0 m pc ls (st.map (dv g))) (C := C) (b := g.1 + a) (As := as.map (dv g)) (rest := r.map (dv g)) ⟨hx, hb, hml, hown, hts⟩ (hE g HB) ⟨cw, hts _ h2, hts _ h3⟩ ⟨PP.blind _ _ _ _, va_recv (q0 := 0) hA.1 (va_P1 (hR.obj ht)) hc rfl, hpre⟩ rfl (Nat.succ.inj hln) hl hst (room8 g h8) hd hroom) hR.2.2.2.2 kk
/-- a call of a text's method -/
theorem co_X (hd0 : MOK d np) (hcls : d.1.cls = "java/lang/String") (h1 : Cond.methodLink own idx d.1 ∈ wsG) (h2 : Cond.instanceMethod d.1 ∈ wsG) (h3 : Cond.selects "java/lang/String" d.1 d.1 ∈ wsG) (h4 : Cond.initialized "java/lang/String" ∈ wsG) : CallOK own (.invokevirtual idx) 2 d (np + 1) := by
  intro p l e R s m args below meth c cc nL H locs cells slots Q g HB pc fr lo mc ms ls st av r h h' rv hC hA hR hl hrc hp hfr hlo h8 hroom hd hE kk
  obtain ⟨q, as, rfl, hq⟩ := hrc
  obtain ⟨hx, hb, hml, hown, hts⟩ := hC
  obtain ⟨hst, hln⟩ := popN_st (g := g) hp
  have ea : dv g (.inr (.inr (1000000 + q))) = .ref (g.2.1 q) := rv_out g q
  have hG : GoodIn wsG (wsV own idx "java/lang/String" d.1 (mdW d)) := fun w hw => by
    unfold wsV at hw
    rcases List.mem_append.mp hw with hw | hw
    · simp only [List.mem_cons, List.not_mem_nil, or_false] at hw
      rcases hw with rfl | rfl | rfl | rfl
      · exact wsG_good _ h1
      · exact wsG_good _ h2
      · exact wsG_good _ h3
      · exact wsG_good _ h4
    · exact mdW_good hd0.1 w hw
  have cw := cwV (R := R) (mc := mc) (ms := ms) (maxL := d.2.2.1) (ret := d.2.2.2) (bytes := d.2.1) (ws' := wsG) (rm := { frames := fr, cells := mc, slots := ms, locals := lo }) np hts hG rfl rfl rfl ⟨hcls, hd0.2⟩ ⟨hfr, by show 8 + (d.2.2.1 + 11) + lo ≤ R.locals; omega⟩
  have hpre := pre_of (av := .inr (.inr (1000000 + q)) :: as) hA hR
  rw [List.map_cons, ea] at hpre
  rw [List.map_cons, ea, List.reverse_cons, List.append_assoc] at hst
  obtain ⟨cell, o1, o2, o3, o4⟩ := hA.2.2.2.2.2.2.1 _ hq
  have o4 : ¬ g.1 + 1 ≤ g.2.1 q := o4
  refine sim_call (va_runV (g := F0 m pc ls (st.map (dv g))) (C := "java/lang/String") (b := g.2.1 q) (As := as.map (dv g)) (rest := r.map (dv g)) ⟨hx, hb, hml, hown, hts⟩ (hE g HB) cw ⟨PP.blind _ _ _ _, ⟨cell, by rw [hR.2.1 _ (by omega)]; exact o1, o2, o3⟩, hpre⟩ rfl (Nat.succ.inj hln) hl hst (room8 g h8) hd hroom) hR.2.2.2.2 kk
end CAL
section TOC
variable {l : Launch} {E : ME} {pc : Nat} {L : LL} {st : List V} {h : Hp} {k z : Nat} {F : Option V → Hp → Nat → Nat → Prop}
/-- room for a call -/
def rmOK (E : ME) (d : MD) (fr lo : Nat) (r : List V) : Bool := Nat.ble (fr + 1) E.2.2.2.2.2.1 && (Nat.ble (lo + (d.2.2.1 + 19)) E.2.2.2.2.2.2 && Nat.ble (slen r) 8)
theorem to_call {op : Instr} {kd np fr lo : Nat} {d : MD} {av r : List V} {Fc : Option V → Hp → Nat → Nat → Prop} (hco : CallOK E.2.2.1 op kd d np) (hd : decode E.1 pc = .ok (op, 3)) (hc : Ct l d fr lo av h Fc) (hp : popN np st [] = some (av, r)) (hrc : Recv kd h av) (hrm : rmOK E d fr lo r = true)
    (k0 : ∀ (rv : Option V) (h' : Hp) (mc ms : Nat), Fc rv h' mc ms → To l E (pc + 3, L, rv.toList ++ r, h', k + mc, z + ms) F) : To l E (pc, L, st, h, k, z) F := by
  obtain ⟨rv, h', mc, ms, hF, hE⟩ := hc
  unfold rmOK at hrm
  rw [Bool.and_eq_true, Bool.and_eq_true] at hrm
  have r1 : fr + 1 ≤ E.2.2.2.2.2.1 := Nat.ble_eq.mp hrm.1
  have r2 : lo + (d.2.2.1 + 19) ≤ E.2.2.2.2.2.2 := Nat.ble_eq.mp hrm.2.1
  refine to_of ?_ (k0 rv h' mc ms hF)
  refine ⟨⟨Nat.le_add_right _ _, Nat.le_add_right _ _⟩, fun g HB p e R s m args below meth c Q H locs ls hC hfr hlo hk hz hR hl kk => ?_⟩
  refine hco p l e R s m args below meth c E.1 E.2.1 H locs k z Q g HB pc fr lo mc ms ls st av r h h' rv hC.1 hC.2.1 hR hl.1 hrc hp (Nat.le_trans r1 hfr) (Nat.le_trans r2 hlo) (Nat.ble_eq.mp hrm.2.2) ⟨hk, hz⟩ hd hE fun H1 locs1 hR1 => ?_
  have h9 := kk H1 locs1 ls hR1 hl
  rw [List.map_append] at h9
  cases rv <;> exact h9
/-- answers: an int, none, a reference, a long; no cell is made -/
def RI (P : Int → Hp → Prop) : Option V → Hp → Nat → Nat → Prop := fun r h' mc ms => mc = 0 ∧ ms = 0 ∧ ∃ x, r = some (.inl x) ∧ I32 x ∧ P x h'
def RV (P : Hp → Prop) : Option V → Hp → Nat → Nat → Prop := fun r h' mc ms => mc = 0 ∧ ms = 0 ∧ r = none ∧ P h'
def RR (P : Nat → Hp → Prop) : Option V → Hp → Nat → Nat → Prop := fun r h' mc ms => mc = 0 ∧ ms = 0 ∧ ∃ x, r = some (.inr (.inr x)) ∧ P x h'
def RLo (P : Int → Hp → Prop) : Option V → Hp → Nat → Nat → Prop := fun r h' mc ms => mc = 0 ∧ ms = 0 ∧ ∃ x, r = some (.inr (.inl x)) ∧ P x h'
/-- and with cells made -/
def RIa (P : Int → Hp → Nat → Nat → Prop) : Option V → Hp → Nat → Nat → Prop := fun r h' mc ms => ∃ x, r = some (.inl x) ∧ I32 x ∧ P x h' mc ms
def RVa (P : Hp → Nat → Nat → Prop) : Option V → Hp → Nat → Nat → Prop := fun r h' mc ms => r = none ∧ P h' mc ms
def RRa (P : Nat → Hp → Nat → Nat → Prop) : Option V → Hp → Nat → Nat → Prop := fun r h' mc ms => ∃ x, r = some (.inr (.inr x)) ∧ P x h' mc ms
section KINDS
variable {op : Instr} {kd np fr lo : Nat} {d : MD} {av r : List V}
theorem to_cI {P : Int → Hp → Prop} (hco : CallOK E.2.2.1 op kd d np) (hd : decode E.1 pc = .ok (op, 3)) (hc : Ct l d fr lo av h (RI P)) (hp : popN np st [] = some (av, r)) (hrc : Recv kd h av) (hrm : rmOK E d fr lo r = true)
    (k0 : ∀ (x : Int) (h' : Hp), I32 x → P x h' → To l E (pc + 3, L, .inl x :: r, h', k, z) F) : To l E (pc, L, st, h, k, z) F :=
  to_call hco hd hc hp hrc hrm fun rv h' mc ms ⟨e1, e2, x, e3, hx, hP⟩ => by subst e1 e2 e3; exact k0 x h' hx hP
theorem to_cV {P : Hp → Prop} (hco : CallOK E.2.2.1 op kd d np) (hd : decode E.1 pc = .ok (op, 3)) (hc : Ct l d fr lo av h (RV P)) (hp : popN np st [] = some (av, r)) (hrc : Recv kd h av) (hrm : rmOK E d fr lo r = true)
    (k0 : ∀ (h' : Hp), P h' → To l E (pc + 3, L, r, h', k, z) F) : To l E (pc, L, st, h, k, z) F :=
  to_call hco hd hc hp hrc hrm fun rv h' mc ms ⟨e1, e2, e3, hP⟩ => by subst e1 e2 e3; exact k0 h' hP
theorem to_cR {P : Nat → Hp → Prop} (hco : CallOK E.2.2.1 op kd d np) (hd : decode E.1 pc = .ok (op, 3)) (hc : Ct l d fr lo av h (RR P)) (hp : popN np st [] = some (av, r)) (hrc : Recv kd h av) (hrm : rmOK E d fr lo r = true)
    (k0 : ∀ (x : Nat) (h' : Hp), P x h' → To l E (pc + 3, L, .inr (.inr x) :: r, h', k, z) F) : To l E (pc, L, st, h, k, z) F :=
  to_call hco hd hc hp hrc hrm fun rv h' mc ms ⟨e1, e2, x, e3, hP⟩ => by subst e1 e2 e3; exact k0 x h' hP
theorem to_cL {P : Int → Hp → Prop} (hco : CallOK E.2.2.1 op kd d np) (hd : decode E.1 pc = .ok (op, 3)) (hc : Ct l d fr lo av h (RLo P)) (hp : popN np st [] = some (av, r)) (hrc : Recv kd h av) (hrm : rmOK E d fr lo r = true)
    (k0 : ∀ (x : Int) (h' : Hp), P x h' → To l E (pc + 3, L, .inr (.inl x) :: r, h', k, z) F) : To l E (pc, L, st, h, k, z) F :=
  to_call hco hd hc hp hrc hrm fun rv h' mc ms ⟨e1, e2, x, e3, hP⟩ => by subst e1 e2 e3; exact k0 x h' hP
theorem to_cIa {P : Int → Hp → Nat → Nat → Prop} (hco : CallOK E.2.2.1 op kd d np) (hd : decode E.1 pc = .ok (op, 3)) (hc : Ct l d fr lo av h (RIa P)) (hp : popN np st [] = some (av, r)) (hrc : Recv kd h av) (hrm : rmOK E d fr lo r = true)
    (k0 : ∀ (x : Int) (h' : Hp) (mc ms : Nat), I32 x → P x h' mc ms → To l E (pc + 3, L, .inl x :: r, h', k + mc, z + ms) F) : To l E (pc, L, st, h, k, z) F :=
  to_call hco hd hc hp hrc hrm fun rv h' mc ms ⟨x, e3, hx, hP⟩ => by subst e3; exact k0 x h' mc ms hx hP
theorem to_cVa {P : Hp → Nat → Nat → Prop} (hco : CallOK E.2.2.1 op kd d np) (hd : decode E.1 pc = .ok (op, 3)) (hc : Ct l d fr lo av h (RVa P)) (hp : popN np st [] = some (av, r)) (hrc : Recv kd h av) (hrm : rmOK E d fr lo r = true)
    (k0 : ∀ (h' : Hp) (mc ms : Nat), P h' mc ms → To l E (pc + 3, L, r, h', k + mc, z + ms) F) : To l E (pc, L, st, h, k, z) F :=
  to_call hco hd hc hp hrc hrm fun rv h' mc ms ⟨e3, hP⟩ => by subst e3; exact k0 h' mc ms hP
theorem to_cRa {P : Nat → Hp → Nat → Nat → Prop} (hco : CallOK E.2.2.1 op kd d np) (hd : decode E.1 pc = .ok (op, 3)) (hc : Ct l d fr lo av h (RRa P)) (hp : popN np st [] = some (av, r)) (hrc : Recv kd h av) (hrm : rmOK E d fr lo r = true)
    (k0 : ∀ (x : Nat) (h' : Hp) (mc ms : Nat), P x h' mc ms → To l E (pc + 3, L, .inr (.inr x) :: r, h', k + mc, z + ms) F) : To l E (pc, L, st, h, k, z) F :=
  to_call hco hd hc hp hrc hrm fun rv h' mc ms ⟨x, e3, hP⟩ => by subst e3; exact k0 x h' mc ms hP
end KINDS
/-- Object's constructor -/
theorem to_obj {a idx : Nat} {t : Ty} (h1 : Cond.methodLink E.2.2.1 idx objectInit ∈ wsG) (h2 : Cond.instanceMethod objectInit ∈ wsG) (h3 : Cond.code objectInit ⟨#[0xb1]⟩ 1 none ∈ wsG) (hd : decode E.1 pc = .ok (.invokespecial idx, 3)) (ht : h.2.1 a = some t) (hrm : (Nat.ble 1 E.2.2.2.2.2.1 && Nat.ble (slen st + 12) E.2.2.2.2.2.2) = true) (k0 : To l E (pc + 3, L, st, h, k, z) F) : To l E (pc, L, .inr (.inr a) :: st, h, k, z) F := by
  rw [Bool.and_eq_true] at hrm
  have r1 : 1 ≤ E.2.2.2.2.2.1 := Nat.ble_eq.mp hrm.1
  have r2 : slen st + 12 ≤ E.2.2.2.2.2.2 := Nat.ble_eq.mp hrm.2
  refine to_of ?_ k0
  refine ⟨⟨Nat.le_refl _, Nat.le_refl _⟩, fun g HB p e R s m args below meth c Q H locs ls hC hfr hlo _ _ hR hl kk => ?_⟩
  show W p l e R s m args below meth c H locs k z Q (F0 m pc ls (rv g a :: st.map (dv g)))
  rw [hR.rv ht]
  obtain ⟨⟨hx, hb, hml, hown, hts⟩, hA, -⟩ := hC
  refine W.objInit hx hb hown (hts _ h1) (hts _ h2) (hts _ h3) (g := F0 m pc ls (.ref (g.1 + a) :: st.map (dv g))) rfl (hl.1.trans hml.symm) rfl hd (by omega) (by rw [slen_sum]; show 2 * 0 + slen st + 12 ≤ R.locals; omega) ?_
  exact kk H locs ls hR hl
theorem mm_of {f : Int32 → Int32 → Int32} {x y r : Int} {idx : Nat} (hr : f (Int32.ofInt x) (Int32.ofInt y) = Int32.ofInt r)
    (row : ∀ (p : Program) (e : Env) (R : Room) (s : State) (m : MethodId) (args : Array Value) (below : List Frame) (meth : Method) (c : Code) (H : Heap) (locs : List Loc) (cells slots : Nat) (Q : State → Prop) (ls : Array Slot) (rest : List Value) (x y : Int32), p.tables.exec = Jvm.exec → c.code = E.1 → c.maxLocals = ls.size → s.vm.findClass E.2.2.1 = some m.cls → (∀ w ∈ wsG, w.before args s = true) → 1 ≤ R.frames → (rest.map fun v => v.category).sum + 13 ≤ R.locals → cells ≤ R.cells → slots ≤ R.slots →
      W p l e R s m args below meth c H locs cells slots Q (F0 m (pc + 3) ls (.int (f x y) :: rest)) → W p l e R s m args below meth c H locs cells slots Q (F0 m pc ls (.int y :: .int x :: rest)))
    (hrm : (Nat.ble 1 E.2.2.2.2.2.1 && Nat.ble (slen st + 13) E.2.2.2.2.2.2) = true) (k0 : To l E (pc + 3, L, .inl r :: st, h, k, z) F) : To l E (pc, L, .inl y :: .inl x :: st, h, k, z) F := by
  rw [Bool.and_eq_true] at hrm
  have r1 : 1 ≤ E.2.2.2.2.2.1 := Nat.ble_eq.mp hrm.1
  have r2 : slen st + 13 ≤ E.2.2.2.2.2.2 := Nat.ble_eq.mp hrm.2
  refine to_of ?_ k0
  refine ⟨⟨Nat.le_refl _, Nat.le_refl _⟩, fun g HB p e R s m args below meth c Q H locs ls hC hfr hlo hk hz hR hl kk => ?_⟩
  obtain ⟨⟨hx, hb, hml, hown, hts⟩, hA, -⟩ := hC
  have h9 : W p l e R s m args below meth c H locs k z Q (F0 m (pc + 3) ls (.int (Int32.ofInt r) :: st.map (dv g))) := kk H locs ls hR hl
  rw [← hr] at h9
  exact row p e R s m args below meth c H locs _ _ Q ls _ _ _ hx hb (hml.trans hl.1.symm) hown hts (by omega) (by rw [slen_sum]; omega) hk hz h9
theorem to_mmin {x y : Int} {idx : Nat} (h1 : Cond.methodLink E.2.2.1 idx Lib.Math.min.name ∈ wsG) (h2 : Cond.static Lib.Math.min.name ∈ wsG) (h3 : Cond.initialized "java/lang/Math" ∈ wsG) (h4 : Cond.code Lib.Math.min.name Lib.Math.min.code 2 (some .int) ∈ wsG) (hd : decode E.1 pc = .ok (.invokestatic idx, 3)) (hx : I32 x) (hy : I32 y)
    (hrm : (Nat.ble 1 E.2.2.2.2.2.1 && Nat.ble (slen st + 13) E.2.2.2.2.2.2) = true) (k0 : ∀ r : Int, (y < x → r = y) → (x ≤ y → r = x) → To l E (pc + 3, L, .inl r :: st, h, k, z) F) : To l E (pc, L, .inl y :: .inl x :: st, h, k, z) F := by
  by_cases hc : y < x
  · exact mm_of (idx := idx) (r := y) (f := fun x y => if y < x then y else x) (if_pos ((lt_of hy hx).mpr hc)) (fun _ _ _ _ _ _ _ _ _ _ _ _ _ _ _ _ _ _ hx hb hml hown hts hf hl hc hs k => va_mmin hx hb hml hown (hts _ h1) (hts _ h2) (hts _ h3) (hts _ h4) hf hl hc hs hd k) hrm (k0 y (fun _ => rfl) (by omega))
  · exact mm_of (idx := idx) (r := x) (f := fun x y => if y < x then y else x) (if_neg (fun h => hc ((lt_of hy hx).mp h))) (fun _ _ _ _ _ _ _ _ _ _ _ _ _ _ _ _ _ _ hx hb hml hown hts hf hl hc hs k => va_mmin hx hb hml hown (hts _ h1) (hts _ h2) (hts _ h3) (hts _ h4) hf hl hc hs hd k) hrm (k0 x (by omega) (fun _ => rfl))
theorem to_mmax {x y : Int} {idx : Nat} (h1 : Cond.methodLink E.2.2.1 idx Lib.Math.max.name ∈ wsG) (h2 : Cond.static Lib.Math.max.name ∈ wsG) (h3 : Cond.initialized "java/lang/Math" ∈ wsG) (h4 : Cond.code Lib.Math.max.name Lib.Math.max.code 2 (some .int) ∈ wsG) (hd : decode E.1 pc = .ok (.invokestatic idx, 3)) (hx : I32 x) (hy : I32 y)
    (hrm : (Nat.ble 1 E.2.2.2.2.2.1 && Nat.ble (slen st + 13) E.2.2.2.2.2.2) = true) (k0 : ∀ r : Int, (x < y → r = y) → (y ≤ x → r = x) → To l E (pc + 3, L, .inl r :: st, h, k, z) F) : To l E (pc, L, .inl y :: .inl x :: st, h, k, z) F := by
  by_cases hc : x < y
  · exact mm_of (idx := idx) (r := y) (f := fun x y => if x < y then y else x) (if_pos ((lt_of hx hy).mpr hc)) (fun _ _ _ _ _ _ _ _ _ _ _ _ _ _ _ _ _ _ hx hb hml hown hts hf hl hc hs k => va_mmax hx hb hml hown (hts _ h1) (hts _ h2) (hts _ h3) (hts _ h4) hf hl hc hs hd k) hrm (k0 y (fun _ => rfl) (by omega))
  · exact mm_of (idx := idx) (r := x) (f := fun x y => if x < y then y else x) (if_neg (fun h => hc ((lt_of hx hy).mp h))) (fun _ _ _ _ _ _ _ _ _ _ _ _ _ _ _ _ _ _ hx hb hml hown hts hf hl hc hs k => va_mmax hx hb hml hown (hts _ h1) (hts _ h2) (hts _ h3) (hts _ h4) hf hl hc hs hd k) hrm (k0 x (by omega) (fun _ => rfl))
end TOC
