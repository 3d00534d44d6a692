/-! Calls, and a method's whole run. -/
/-- a method: its name, code, locals, answer; its steps by pc; its ends by pc (0 void, 1 int, 2 a small known number, 3 a reference or null, 4 long) -/
abbrev MD : Type := MethodName × ByteArray × Nat × Option FieldType × List (Nat × FF) × List (Nat × Nat)
def mdY (d : MD) : MethodName := d.1
def mdC (d : MD) : ByteArray := d.2.1
def mdL (d : MD) : Nat := d.2.2.1
def mdR (d : MD) : Option FieldType := d.2.2.2.1
def mdP (d : MD) : List (Nat × FF) := d.2.2.2.2.1
def mdE (d : MD) : List (Nat × Nat) := d.2.2.2.2.2
def mdW (d : MD) : List Cond := .code (mdY d) (mdC d) (mdL d) (mdR d) :: wsG
def argsA (i : Nat) (av : List AV) : LL := match av with
  | [] => []
  | v :: t => (i, v) :: argsA (match Nat.beq (ct v) 2 with | true => i + 2 | false => i + 1) t
def slen (av : List AV) : Nat := match av with
  | [] => 0
  | v :: t => ct v + slen t
theorem argsA_eq (g : GG) : ∀ (av : List AV) (i : Nat), cL g (argsA i av) = lv_args i (av.map (cV g))
  | [], _ => rfl
  | v :: t, i => by
    rw [argsA, List.map_cons, lv_args, cV_cat]
    show (i, cV g v) :: cL g _ = _
    rw [argsA_eq g t]
    by_cases h : ct v = 2
    · rw [if_pos h, h]
    · rw [if_neg h]
      cases hb : Nat.beq (ct v) 2 with
      | true => exact absurd (Nat.eq_of_beq_eq_true hb) h
      | false => rfl
theorem ct_12 (v : AV) : ct v = 1 ∨ ct v = 2 := by
  have h := lv_cat (cV (0, fun _ => 0, (fun _ => 0, fun _ _ => 0), fun _ => 0) v)
  rw [cV_cat] at h
  exact h
theorem slen_eq (g : GG) : ∀ (av : List AV), (lg_sl (av.map (cV g))).length = slen av
  | [] => rfl
  | v :: t => by
    have ih := slen_eq g t
    unfold lg_sl at ih ⊢
    rw [List.map_cons, List.flatMap_cons, List.length_append, ih, slen, cV_cat]
    rcases ct_12 v with h | h
    · rw [h]; rfl
    · rw [h]; rfl
def retv (ret : Option FieldType) (kd : Nat) (st : List AV) : Option (Option AV) := match st with
  | [] => match kd with
    | 0 => some none
    | _ => none
  | a :: r => match r with
    | [] => match kd with
      | 1 => match isI a with
        | true => some (some a)
        | false => none
      | 2 => match a, ret with
        | .inl x, some ty => match decide (narrow ty (.int (nI x)) = .int (nI x)) with
          | true => some (some a)
          | false => none
        | _, _ => none
      | 3 => match isR a || isN a with
        | true => some (some a)
        | false => none
      | 4 => match isL a with
        | true => some (some a)
        | false => none
      | _ => none
    | _ => none
abbrev RunF : Type := List (Nat × FF) → Nat → Nat → Cfg → Option Cfg
def cMth (M : Nat → Option MD) (rn : RunF) : CallF := fun id fr lo av h o cs => match M id with
  | none => none
  | some d => match Nat.ble (slen av) (mdL d) with
    | false => none
    | true => match rn (mdP d) fr lo (0, argsA 0 av, [], h, 0, 0, o, cs) with
      | none => none
      | some (pc, _, st, h', k, z, o', cs') => match alk (mdE d) pc with
        | none => none
        | some kd => match retv (mdR d) kd st with
          | none => none
          | some rv => some (rv, h', k, z, o', cs')
def run (M : Nat → Option MD) : Nat → RunF
  | 0 => fun _ _ _ _ => none
  | n + 1 => fun P fr lo c => match alk P c.1 with
    | none => some c
    | some f => match f (cMth M (run M n)) fr lo c with
      | none => none
      | some c' => run M n P fr lo c'
def QQ (g : GG) (HB : Heap) (rv : Option AV) (h' : List AE) : Array Value → State → Outcome → State → Prop := fun _ _ oc t => oc = .returned (rv.map (cV g)) ∧ Rh g HB h' t.heap []
def PP (g : GG) (HB : Heap) (av : List AV) (h : List AE) : Array Value → State → Prop := va_Pc (av.map (cV g)) (fun U => Rh g HB h U.heap [] ∧ KA g HB U)
/-- what is computed of a call is a contract -/
def SndC (g : GG) (HB : Heap) (l : Launch) (M : Nat → Option MD) (call : CallF) : Prop :=
  ∀ (id fr lo : Nat) (av : List AV) (h : List AE) (o : List Bool) (cs : CSL) (rv : Option AV) (h' : List AE) (mc ms : Nat) (o' : List Bool) (cs' : CSL),
    call id fr lo av h o cs = some (rv, h', mc, ms, o', cs') → ∃ d : MD, M id = some d ∧ cs <:+ cs' ∧
      (okc g cs' → Met l (mdY d) (mdW d) { frames := fr, cells := mc, slots := ms, locals := lo } (PP g HB av h) (QQ g HB rv h') mc ms (hiA g))
theorem PP.blind (g : GG) (HB : Heap) (av : List AV) (h : List AE) : FrameBlind (PP g HB av h) := by
  intro a U fr mk q
  obtain ⟨q0, qR, qK⟩ := q
  exact ⟨q0, qR, KA.same (s := U) (U := U.calling fr mk a) rfl qK⟩
theorem Rh.nolocs {g : GG} {HB H : Heap} {h : List AE} {locs : List Loc} (hR : Rh g HB h H locs) : Rh g HB h H [] := ⟨hR.1, hR.2.1, hR.2.2.1, fun q hq => by cases hq⟩
theorem wsG_good : GoodIn wsG wsG := fun w hw => ⟨hw, good_of_word (List.mem_filter.mp hw).2⟩
theorem mdW_good {d : MD} (h : Cond.code (mdY d) (mdC d) (mdL d) (mdR d) ∈ wsG) : GoodIn wsG (mdW d) := fun w hw => by
  rcases List.mem_cons.mp hw with rfl | hw
  · exact wsG_good _ h
  · exact wsG_good _ hw
section SIM
variable {p : Program} {l : Launch} {e : Env} {R : Room} {s : State} {m : MethodId} {args : Array Value} {below : List Frame} {meth : Method} {c : Code} {H : Heap} {locs : List Loc} {cells slots : Nat} {Q : State → Prop}
theorem sim_call {g : GG} {HB : Heap} {rv : Option AV} {h' : List AE} {mc ms pc : Nat} {ls : Array Slot} {st0 rest : List Value} {a : Array Value}
    (hr : va_Run p l e R s m args below meth c H locs cells slots mc ms (F0 m pc ls st0) rest (QQ g HB rv h' a) (hiA g)) (hL : ∀ q ∈ locs, g.1 ≤ q.base)
    (kk : ∀ (H1 : Heap) (locs1 : List Loc), Rh g HB h' H1 locs1 → W p l e R s m args below meth c H1 locs1 (cells + mc) (slots + ms) Q (F0 m (pc + 3) ls ((rv.map (cV g)).toList ++ rest))) : W p l e R s m args below meth c H locs cells slots Q (F0 m pc ls st0) := by
  intro T hT X
  obtain ⟨v, st₀, t, T', L, h0, X', hL2, e1, e2, ⟨hv, hR⟩, st⟩ := hr T hT X
  have hv : v = rv.map (cV g) := by cases hv; rfl
  subst hv
  obtain ⟨t2, a1, b1⟩ := kk T'.heap (locs ++ L) (by
    rw [e1]
    exact ⟨hR.1, hR.2.1, hR.2.2.1, fun q hq => by
      rcases List.mem_append.mp hq with h | h
      · exact hL q h
      · exact hL2 q h⟩) T' rfl X'
  exact ⟨t2, st t2 a1, b1⟩
end SIM
-- the arguments of a call
def popN (n : Nat) (st acc : List AV) : Option (List AV × List AV) := match n with
  | 0 => some (acc, st)
  | n + 1 => match st with
    | [] => none
    | v :: r => popN n r (v :: acc)
theorem popN_ok : ∀ (n : Nat) (st acc as r : List AV), popN n st acc = some (as, r) → ∃ tk : List AV, st = tk ++ r ∧ as = tk.reverse ++ acc ∧ tk.length = n
  | 0, st, acc, as, r, h => by
    cases h
    exact ⟨[], rfl, rfl, rfl⟩
  | n + 1, [], acc, as, r, h => by cases h
  | n + 1, v :: st, acc, as, r, h => by
    obtain ⟨tk, h1, h2, h3⟩ := popN_ok n st (v :: acc) as r h
    exact ⟨v :: tk, by rw [h1]; rfl, by rw [h2]; simp, by simp [h3]⟩
theorem popN_st {g : GG} {n : Nat} {st as r : List AV} (h : popN n st [] = some (as, r)) : st.map (cV g) = (as.map (cV g)).reverse ++ r.map (cV g) ∧ (as.map (cV g)).length = n := by
  obtain ⟨tk, h1, h2, h3⟩ := popN_ok n st [] as r h
  subst h1
  rw [h2, List.append_nil]
  constructor
  · rw [List.map_append, List.map_reverse, List.reverse_reverse]
  · rw [List.length_map, List.length_reverse, h3]
/-- the call itself: w is what it costs of the room for locals -/
def goC (call : CallF) (id fr lo w n : Nat) (L : LL) (av : List AV) (r : List AV) (h : List AE) (k z : Nat) (o : List Bool) (cs : CSL) : Option Cfg := match fr with
  | 0 => none
  | fr' + 1 => match Nat.ble w lo && Nat.ble (slen r) 8 with
    | false => none
    | true => match fz (lo - w) (fun lo' => call id fr' lo' av h o cs) with
      | none => none
      | some (rv, h', mc, ms, o', cs') => match rv with
        | some v => some (n, L, v :: r, h', k + mc, z + ms, o', cs')
        | none => some (n, L, r, h', k + mc, z + ms, o', cs')
theorem goC_ok {call : CallF} {id fr lo w n : Nat} {L : LL} {av r : List AV} {h : List AE} {k z : Nat} {o : List Bool} {cs : CSL} {pc' : Nat} {L' : LL} {st' : List AV} {h' : List AE} {k' z' : Nat} {o' : List Bool} {cs' : CSL} (hf : goC call id fr lo w n L av r h k z o cs = some (pc', L', st', h', k', z', o', cs')) :
    ∃ (fr' : Nat) (rv : Option AV) (mc ms : Nat), fr = fr' + 1 ∧ w ≤ lo ∧ slen r ≤ 8 ∧ call id fr' (lo - w) av h o cs = some (rv, h', mc, ms, o', cs') ∧ pc' = n ∧ L' = L ∧ st' = rv.toList ++ r ∧ k' = k + mc ∧ z' = z + ms := by
  rcases fr with _ | fr'
  · cases hf
  simp only [goC, fz_eq] at hf
  cases hb : Nat.ble w lo && Nat.ble (slen r) 8 with
  | false => rw [hb] at hf; cases hf
  | true =>
    rw [hb] at hf
    rw [Bool.and_eq_true] at hb
    simp only at hf
    cases hc : call id fr' (lo - w) av h o cs with
    | none => rw [hc] at hf; cases hf
    | some x =>
      obtain ⟨rv, h1, mc, ms, o1, cs1⟩ := x
      rw [hc] at hf
      cases rv with
      | none =>
        cases hf
        exact ⟨fr', none, mc, ms, rfl, Nat.ble_eq.mp hb.1, Nat.ble_eq.mp hb.2, hc, rfl, rfl, rfl, rfl, rfl⟩
      | some v =>
        cases hf
        exact ⟨fr', some v, mc, ms, rfl, Nat.ble_eq.mp hb.1, Nat.ble_eq.mp hb.2, hc, rfl, rfl, rfl, rfl, rfl⟩
theorem slen_sum (g : GG) : ∀ (r : List AV), ((r.map (cV g)).map fun v => v.category).sum = slen r
  | [] => rfl
  | v :: t => by
    have ih := slen_sum g t
    rw [List.map_cons, List.map_cons, List.sum_cons, ih, cV_cat, slen]
theorem room8 (g : GG) {m : MethodId} {pc : Nat} {ls : Array Slot} {st : List Value} {r : List AV} (h : slen r ≤ 8) : 2 * (F0 m pc ls st).monitorRoom + ((r.map (cV g)).map fun v => v.category).sum ≤ 8 := by
  rw [slen_sum]
  show 2 * 0 + slen r ≤ 8
  omega
/-- what a called method must be -/
def MOK (d : MD) (np : Nat) : Prop := Cond.code (mdY d) (mdC d) (mdL d) (mdR d) ∈ wsG ∧ (mdY d).cls ≠ "java/lang/invoke/MethodHandle" ∧ (mdY d).cls ≠ "java/lang/invoke/VarHandle" ∧ (parseMethodDescriptor (mdY d).desc).map (fun d => d.parameters.length) = some np
section CAL
variable {g : GG} {HB : Heap} {l : Launch} {M : Nat → Option MD} {call : CallF} {cc : ByteArray} {nL : Nat} {own nm : String} {pc n id w np idx : Nat} {d : MD} {ci : Nat} {C : String} {T : u_T} {N : Nat}
theorem pre_of {p : Program} {s : State} {H : Heap} {h : List AE} {locs : List Loc} {av : List AV} (hA : KA g HB s) (hR : Rh g HB h H locs) : ∀ U : State, U.heap = H → s.WarmedH U.vm → PP g HB av h (av.map (cV g)).toArray U :=
  fun U hU hW => ⟨rfl, by rw [hU]; exact hR.nolocs, hA.warm hW⟩
def s_cS (id np w n : Nat) : FF := fun call fr lo c => match c with
  | (_, L, st, h, k, z, o, cs) => match popN np st [] with
    | none => none
    | some (as, r) => goC call id fr lo w n L as r h k z o cs
theorem c_S (hC0 : SndC g HB l M call) (hM : M id = some d) (hd0 : MOK d np) (hw : w = mdL d + 19) (h1 : Cond.methodLink own idx (mdY d) ∈ wsG) (h2 : Cond.static (mdY d) ∈ wsG) (h3 : Cond.initialized (mdY d).cls ∈ wsG) (hd : decode cc pc = .ok (.invokestatic idx, 3)) (hn : pc + 3 = n) : Snd g HB l call cc nL own nm pc (s_cS id np w n) := by
  intro fr lo L st h k z o cs pc' L' st' h' k' z' o' cs' hf
  simp only [s_cS] at hf
  cases hp : popN np st [] with
  | none => rw [hp] at hf; cases hf
  | some x =>
    obtain ⟨as, r⟩ := x
    rw [hp] at hf
    obtain ⟨fr', rv, mc, ms, rfl, hlo, h8, hcall, rfl, rfl, rfl, rfl, rfl⟩ := goC_ok hf
    subst hn
    obtain ⟨d2, e2, hsuf, hmet⟩ := hC0 _ _ _ _ _ _ _ _ _ _ _ _ _ hcall
    cases hM.symm.trans e2
    refine ⟨⟨hsuf, Nat.le_add_right _ _, Nat.le_add_right _ _⟩, fun hok p e R s m args below meth c Q H locs ls hC hfr hlo2 hk hz hR hl kk => ?_⟩
    obtain ⟨⟨hx, hb, hml, hown, hts⟩, hA, -⟩ := hC
    obtain ⟨hst, hln⟩ := popN_st (g := g) hp
    have hG : GoodIn wsG (va_wsS own idx (mdY d) (mdW d)) := fun w hw => by
      unfold va_wsS at hw
      rcases List.mem_append.mp hw with hw | hw
      · simp only [List.mem_cons, List.not_mem_nil, or_false] at hw
        rcases hw with rfl | rfl | rfl
        · exact wsG_good _ h1
        · exact wsG_good _ h2
        · exact wsG_good _ h3
      · exact mdW_good hd0.1 w hw
    have cw := va_cwS (R := R) (mc := mc) (ms := ms) (maxL := mdL d) (ret := mdR d) (bytes := mdC d) (ws' := wsG) (rm := { frames := fr', cells := mc, slots := ms, locals := lo - w }) np hts hG rfl rfl rfl hd0.2 ⟨hfr, by show 8 + (mdL d + 11) + (lo - w) ≤ R.locals; omega⟩
    refine sim_call (va_runS (g := F0 m pc ls (st.map (cV g))) (As := as.map (cV g)) (rest := r.map (cV g)) ⟨hx, hb, hml, hown, hts⟩ (hmet hok) cw ⟨PP.blind _ _ _ _, pre_of (p := p) hA hR⟩ rfl hln hl.1 hst (room8 g h8) hd ⟨hk, hz⟩) hR.2.2.2 fun H1 locs1 hR1 => ?_
    have hkk := kk H1 locs1 ls hR1 hl
    rw [List.map_append] at hkk
    cases rv <;> exact hkk
/-- a constructor's call -/
def s_cI (id np w n : Nat) : FF := fun call fr lo c => match c with
  | (_, L, st, h, k, z, o, cs) => match popN np st [] with
    | none => none
    | some (as, r0) => match r0 with
      | [] => none
      | a :: r => match isR a with
        | true => goC call id fr lo w n L (a :: as) r h k z o cs
        | false => none
theorem c_I (hC0 : SndC g HB l M call) (hM : M id = some d) (hd0 : MOK d np) (hw : w = mdL d + 19) (hret : mdR d = none) (hin : (mdY d).name = "<init>") (h1 : Cond.methodLink own idx (mdY d) ∈ wsG) (h2 : Cond.instanceMethod (mdY d) ∈ wsG) (h3 : Cond.initialized (mdY d).cls ∈ wsG) (hd : decode cc pc = .ok (.invokespecial idx, 3)) (hn : pc + 3 = n) : Snd g HB l call cc nL own nm pc (s_cI id np w n) := by
  intro fr lo L st h k z o cs pc' L' st' h' k' z' o' cs' hf
  simp only [s_cI] at hf
  cases hp : popN np st [] with
  | none => rw [hp] at hf; cases hf
  | some x =>
    obtain ⟨as, r0⟩ := x
    rw [hp] at hf
    rcases r0 with _ | ⟨a, r⟩
    · cases hf
    simp only at hf
    cases ha : isR a with
    | false => rw [ha] at hf; cases hf
    | true =>
      rw [ha] at hf
      obtain ⟨fr', rv, mc, ms, rfl, hlo, h8, hcall, rfl, rfl, rfl, rfl, rfl⟩ := goC_ok hf
      subst hn
      obtain ⟨d2, e2, hsuf, hmet⟩ := hC0 _ _ _ _ _ _ _ _ _ _ _ _ _ hcall
      cases hM.symm.trans e2
      refine ⟨⟨hsuf, Nat.le_add_right _ _, Nat.le_add_right _ _⟩, fun hok p e R s m args below meth c Q H locs ls hC hfr hlo2 hk hz hR hl kk => ?_⟩
      obtain ⟨⟨hx, hb, hml, hown, hts⟩, hA, -⟩ := hC
      obtain ⟨hst, hln⟩ := popN_st (g := g) hp
      rw [List.map_cons, cV_R ha] at hst
      have hcode := hd0.1
      rw [hret] at hcode
      have cw := cwI (R := R) (mc := mc) (ms := ms) (maxL := mdL d) (bytes := mdC d) (ws := mdW d) (ws' := wsG) (rm := { frames := fr', cells := mc, slots := ms, locals := lo - w }) np hts (mdW_good hd0.1) (by unfold mdW; rw [hret]) rfl rfl (hts _ h3) (hts _ h1) (hts _ h2) hin hd0.2 ⟨hfr, by show 8 + (mdL d + 11) + (lo - w) ≤ R.locals; omega⟩
      have hpre := pre_of (p := p) (av := a :: as) hA hR
      rw [List.map_cons, cV_R ha] at hpre
      refine sim_call (va_runI (g := F0 m pc ls (st.map (cV g))) (b := gR g a) (As := as.map (cV g)) (rest := r.map (cV g)) ⟨hx, hb, hml, hown, hts⟩ (hmet hok) cw ⟨PP.blind _ _ _ _, hpre⟩ rfl hln hl.1 hst (room8 g h8) hd ⟨hk, hz⟩) hR.2.2.2 fun H1 locs1 hR1 => ?_
      have hkk := kk H1 locs1 ls hR1 hl
      rw [List.map_append] at hkk
      cases rv <;> exact hkk
theorem c_IN {host : String} (hC0 : SndC g HB l M call) (hM : M id = some d) (hd0 : MOK d np) (hw : w = mdL d + 19) (hret : mdR d = none) (hin : (mdY d).name = "<init>") (h1 : Cond.methodLinkNest own idx (mdY d) host ∈ nwL) (h2 : Cond.instanceMethod (mdY d) ∈ wsG) (h3 : Cond.initialized (mdY d).cls ∈ wsG) (hd : decode cc pc = .ok (.invokespecial idx, 3)) (hn : pc + 3 = n) : Snd g HB l call cc nL own nm pc (s_cI id np w n) := by
  intro fr lo L st h k z o cs pc' L' st' h' k' z' o' cs' hf
  simp only [s_cI] at hf
  cases hp : popN np st [] with
  | none => rw [hp] at hf; cases hf
  | some x =>
    obtain ⟨as, r0⟩ := x
    rw [hp] at hf
    rcases r0 with _ | ⟨a, r⟩
    · cases hf
    simp only at hf
    cases ha : isR a with
    | false => rw [ha] at hf; cases hf
    | true =>
      rw [ha] at hf
      obtain ⟨fr', rv, mc, ms, rfl, hlo, h8, hcall, rfl, rfl, rfl, rfl, rfl⟩ := goC_ok hf
      subst hn
      obtain ⟨d2, e2, hsuf, hmet⟩ := hC0 _ _ _ _ _ _ _ _ _ _ _ _ _ hcall
      cases hM.symm.trans e2
      refine ⟨⟨hsuf, Nat.le_add_right _ _, Nat.le_add_right _ _⟩, fun hok p e R s m args below meth c Q H locs ls hC hfr hlo2 hk hz hR hl kk => ?_⟩
      obtain ⟨⟨hx, hb, hml, hown, hts⟩, hA, -⟩ := hC
      obtain ⟨hst, hln⟩ := popN_st (g := g) hp
      rw [List.map_cons, cV_R ha] at hst
      have hcode := hd0.1
      rw [hret] at hcode
      have cw := va_cnB (R := R) (mc := mc) (ms := ms) (maxL := mdL d) (ret := none) (bytes := mdC d) (ws := mdW d) (ws' := wsG) (rm := { frames := fr', cells := mc, slots := ms, locals := lo - w }) np hts (mdW_good hd0.1) (by unfold mdW; rw [hret]) rfl rfl (hA.2.1 _ h1) (hts _ h3) hd0.2 ⟨hfr, by show 8 + (mdL d + 11) + (lo - w) ≤ R.locals; omega⟩
      have hpre := pre_of (p := p) (av := a :: as) hA hR
      rw [List.map_cons, cV_R ha] at hpre
      refine sim_call (va_runIN (g := F0 m pc ls (st.map (cV g))) (b := gR g a) (As := as.map (cV g)) (rest := r.map (cV g)) ⟨hx, hb, hml, hown, hts⟩ (hmet hok) ⟨cw, hin, hts _ h2⟩ ⟨PP.blind _ _ _ _, hpre⟩ rfl hln hl.1 hst (room8 g h8) hd ⟨hk, hz⟩) hR.2.2.2 fun H1 locs1 hR1 => ?_
      have hkk := kk H1 locs1 ls hR1 hl
      rw [List.map_append] at hkk
      cases rv <;> exact hkk
/-- a call of an object's method: the object is of class ci -/
def s_cV (ci id np w n : Nat) : FF := fun call fr lo c => match c with
  | (_, L, st, h, k, z, o, cs) => match popN np st [] with
    | none => none
    | some (as, r0) => match r0 with
      | [] => none
      | a :: r => match rOf a with
        | none => none
        | some q => match h[q]? with
          | some (.inr (cj, _)) => match Nat.beq ci cj with
            | true => goC call id fr lo w n L (a :: as) r h k z o cs
            | false => none
          | _ => none
theorem s_cV_ok {ci id np w n fr lo pc : Nat} {call : CallF} {L : LL} {st : List AV} {h : List AE} {k z : Nat} {o : List Bool} {cs : CSL} {x : Cfg} (hf : s_cV ci id np w n call fr lo (pc, L, st, h, k, z, o, cs) = some x) : ∃ (as r : List AV) (q : Nat) (fs : List AV), popN np st [] = some (as, .inr (.inr (.ref q)) :: r) ∧ h[q]? = some (.inr (ci, fs)) ∧ goC call id fr lo w n L (.inr (.inr (.ref q)) :: as) r h k z o cs = some x := by
  simp only [s_cV] at hf
  cases hp : popN np st [] with
  | none => rw [hp] at hf; cases hf
  | some x =>
    obtain ⟨as, r0⟩ := x
    rw [hp] at hf
    rcases r0 with _ | ⟨a, r⟩
    · cases hf
    simp only at hf
    cases ha : rOf a with
    | none => rw [ha] at hf; cases hf
    | some q =>
      rw [ha] at hf
      simp only at hf
      cases hq : h[q]? with
      | none => rw [hq] at hf; cases hf
      | some c =>
        rw [hq] at hf
        rcases c with c | ⟨cj, fs⟩
        · cases hf
        simp only at hf
        cases hb : Nat.beq ci cj with
        | false => rw [hb] at hf; cases hf
        | true =>
          rw [hb] at hf
          have e := Nat.eq_of_beq_eq_true hb
          subst e
          rw [rOf_eq ha] at hf ⊢
          exact ⟨as, r, q, fs, rfl, hq, hf⟩
theorem c_V (hc : vwCl[ci]? = some (C, T, N)) (hC0 : SndC g HB l M call) (hM : M id = some d) (hd0 : MOK d np) (hw : w = mdL d + 19) (hcls : (mdY d).cls = C) (h1 : Cond.methodLink own idx (mdY d) ∈ wsG) (h2 : Cond.instanceMethod (mdY d) ∈ wsG) (h3 : Cond.selects C (mdY d) (mdY d) ∈ wsG) (h4 : Cond.initialized C ∈ wsG) (hd : decode cc pc = .ok (.invokevirtual idx, 3)) (hn : pc + 3 = n) : Snd g HB l call cc nL own nm pc (s_cV ci id np w n) := by
  intro fr lo L st h k z o cs pc' L' st' h' k' z' o' cs' hf
  obtain ⟨as, r, q, fs, hp, hq, hgo⟩ := s_cV_ok hf
  obtain ⟨fr', rv, mc, ms, rfl, hlo, h8, hcall, rfl, rfl, rfl, rfl, rfl⟩ := goC_ok hgo
  subst hn
  obtain ⟨d2, e2, hsuf, hmet⟩ := hC0 _ _ _ _ _ _ _ _ _ _ _ _ _ hcall
  cases hM.symm.trans e2
  refine ⟨⟨hsuf, Nat.le_add_right _ _, Nat.le_add_right _ _⟩, fun hok p e R s m args below meth c Q H locs ls hC hfr hlo2 hk hz hR hl kk => ?_⟩
  obtain ⟨⟨hx, hb, hml, hown, hts⟩, hA, -⟩ := hC
  obtain ⟨hst, hln⟩ := popN_st (g := g) hp
  have hG : GoodIn wsG (wsV own idx C (mdY d) (mdW d)) := fun w hw => by
    unfold wsV at hw
    rcases List.mem_append.mp hw with hw | hw
    · simp only [List.mem_cons, List.not_mem_nil, or_false] at hw
      rcases hw with rfl | rfl | rfl | rfl
      · exact wsG_good _ h1
      · exact wsG_good _ h2
      · exact wsG_good _ h3
      · exact wsG_good _ h4
    · exact mdW_good hd0.1 w hw
  have cw := cwV (R := R) (mc := mc) (ms := ms) (maxL := mdL d) (ret := mdR d) (bytes := mdC d) (ws' := wsG) (rm := { frames := fr', cells := mc, slots := ms, locals := lo - w }) np hts hG rfl rfl rfl ⟨hcls, hd0.2⟩ ⟨hfr, by show 8 + (mdL d + 11) + (lo - w) ≤ R.locals; omega⟩
  refine sim_call (va_runV (g := F0 m pc ls (st.map (cV g))) (C := C) (b := g.1 + q) (As := as.map (cV g)) (rest := r.map (cV g)) ⟨hx, hb, hml, hown, hts⟩ (hmet hok) cw ⟨PP.blind _ _ _ _, va_recv hA.1 hR.2.2.1 hc (Rh.ws hq), pre_of (p := p) (av := .inr (.inr (.ref q)) :: as) hA hR⟩ rfl hln hl.1 hst (room8 g h8) hd ⟨hk, hz⟩) hR.2.2.2 fun H1 locs1 hR1 => ?_
  have hkk := kk H1 locs1 ls hR1 hl
  rw [List.map_append] at hkk
  cases rv <;> exact hkk
theorem c_VN {host : String} (hc : vwCl[ci]? = some (C, T, N)) (hC0 : SndC g HB l M call) (hM : M id = some d) (hd0 : MOK d np) (hw : w = mdL d + 19) (h1 : Cond.methodLinkNest own idx (mdY d) host ∈ nwL) (h2 : Cond.instanceMethod (mdY d) ∈ wsG) (h3 : Cond.selects C (mdY d) (mdY d) ∈ wsG) (h4 : Cond.initialized (mdY d).cls ∈ wsG) (hd : decode cc pc = .ok (.invokevirtual idx, 3)) (hn : pc + 3 = n) : Snd g HB l call cc nL own nm pc (s_cV ci id np w n) := by
  intro fr lo L st h k z o cs pc' L' st' h' k' z' o' cs' hf
  obtain ⟨as, r, q, fs, hp, hq, hgo⟩ := s_cV_ok hf
  obtain ⟨fr', rv, mc, ms, rfl, hlo, h8, hcall, rfl, rfl, rfl, rfl, rfl⟩ := goC_ok hgo
  subst hn
  obtain ⟨d2, e2, hsuf, hmet⟩ := hC0 _ _ _ _ _ _ _ _ _ _ _ _ _ hcall
  cases hM.symm.trans e2
  refine ⟨⟨hsuf, Nat.le_add_right _ _, Nat.le_add_right _ _⟩, fun hok p e R s m args below meth c Q H locs ls hC hfr hlo2 hk hz hR hl kk => ?_⟩
  obtain ⟨⟨hx, hb, hml, hown, hts⟩, hA, -⟩ := hC
  obtain ⟨hst, hln⟩ := popN_st (g := g) hp
  have cw := va_cnB (R := R) (mc := mc) (ms := ms) (maxL := mdL d) (ret := mdR d) (bytes := mdC d) (ws := mdW d) (ws' := wsG) (rm := { frames := fr', cells := mc, slots := ms, locals := lo - w }) np hts (mdW_good hd0.1) rfl rfl rfl (hA.2.1 _ h1) (hts _ h4) hd0.2 ⟨hfr, by show 8 + (mdL d + 11) + (lo - w) ≤ R.locals; omega⟩
  refine sim_call (va_runVN (g := F0 m pc ls (st.map (cV g))) (C := C) (b := g.1 + q) (As := as.map (cV g)) (rest := r.map (cV g)) ⟨hx, hb, hml, hown, hts⟩ (hmet hok) ⟨cw, hts _ h2, hts _ h3⟩ ⟨PP.blind _ _ _ _, va_recv hA.1 hR.2.2.1 hc (Rh.ws hq), pre_of (p := p) (av := .inr (.inr (.ref q)) :: as) hA hR⟩ rfl hln hl.1 hst (room8 g h8) hd ⟨hk, hz⟩) hR.2.2.2 fun H1 locs1 hR1 => ?_
  have hkk := kk H1 locs1 ls hR1 hl
  rw [List.map_append] at hkk
  cases rv <;> exact hkk
end CAL
