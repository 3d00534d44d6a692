/-! Calls of the run with leaves. -/
abbrev LeafN : Type := Option AV × List AE × List LinC × Nat
abbrev CallN : Type := Nat → Nat → Nat → List Item → List AV → List AE → List LinC → Nat → Option (List LeafN × Nat × Nat × List Item)
/-- a method: its name, code, locals, answer; its steps; its loop heads, its ends (pc and kind), cells and slots that it makes at most, turns -/
abbrev MN : Type := MethodName × ByteArray × Nat × Option FieldType × (CallN → List (Nat × NF)) × List Nat × List (Nat × Nat) × Nat × Nat × Nat
def mnY (d : MN) : MethodName := d.1
def mnC (d : MN) : ByteArray := d.2.1
def mnL (d : MN) : Nat := d.2.2.1
def mnR (d : MN) : Option FieldType := d.2.2.2.1
def mnT (d : MN) : CallN → List (Nat × NF) := d.2.2.2.2.1
def mnH (d : MN) : List Nat := d.2.2.2.2.2.1
def mnE (d : MN) : List (Nat × Nat) := d.2.2.2.2.2.2.1
def mnK (d : MN) : Nat := d.2.2.2.2.2.2.2.1
def mnZ (d : MN) : Nat := d.2.2.2.2.2.2.2.2.1
def mnN (d : MN) : Nat := d.2.2.2.2.2.2.2.2.2
def cLe (k : Cnt) (n : Nat) : Bool := match k.2 with
  | [] => Nat.ble k.1 n
  | _ :: _ => false
theorem cLe_ok {k : Cnt} {n : Nat} (h : cLe k n = true) (g : GG) : cv g k ≤ n := by
  obtain ⟨a, b⟩ := k
  rcases b with _ | ⟨i, t⟩
  · show a + 0 ≤ n
    exact Nat.ble_eq.mp h
  · cases h
def leafOf (d : MN) (y : NC) : Option LeafN := match y with
  | (pc, _, st, h, k, z, kn, nxt) => match alk (mnE d) pc with
    | none => none
    | some kd => match retv (mnR d) kd st with
      | none => none
      | some rv => match cLe k (mnK d) && cLe z (mnZ d) with
        | true => some (rv, h, kn, nxt)
        | false => none
def leavesOf (d : MN) (ys : List NC) : Option (List LeafN) := match ys with
  | [] => some []
  | y :: t => match leafOf d y with
    | none => none
    | some lf => match leavesOf d t with
      | none => none
      | some ls => some (lf :: ls)
theorem leavesOf_ok {d : MN} : ∀ {ys : List NC} {ls : List LeafN}, leavesOf d ys = some ls → ∀ y ∈ ys, ∃ lf ∈ ls, leafOf d y = some lf
  | [], _, _ => fun y hy => by cases hy
  | y :: t, ls, h => by
    unfold leavesOf at h
    cases h1 : leafOf d y with
    | none => rw [h1] at h; cases h
    | some lf =>
      cases h2 : leavesOf d t with
      | none => rw [h1, h2] at h; cases h
      | some l2 =>
        rw [h1, h2] at h
        cases h
        intro z hz
        rcases List.mem_cons.mp hz with rfl | hz
        · exact ⟨lf, List.mem_cons_self, h1⟩
        · obtain ⟨w, hw, e⟩ := leavesOf_ok h2 z hz
          exact ⟨w, List.mem_cons_of_mem _ hw, e⟩
def callN (M : Nat → Option MN) : Nat → CallN
  | 0 => fun _ _ _ _ _ _ _ _ => none
  | f + 1 => fun id fr lo s av h kn nxt => match M id with
    | none => none
    | some d => match Nat.ble (slen av) (mnL d) with
      | false => none
      | true => match nrun (mnT d (callN M f)) (mnH d) (mnN d) ((mnE d).map (fun q => q.1)) s [(0, argsA 0 av, [], h, (0, []), (0, []), kn, nxt)] with
        | none => none
        | some (ys, s') => match leavesOf d ys with
          | none => none
          | some lv => some (lv, mnK d, mnZ d, s')
def QN (g : GG) (HB : Heap) (lv : List LeafN) (nxt : Nat) : Array Value → State → Outcome → State → Prop := fun _ _ oc t =>
  ∃ lf ∈ lv, ∃ g' : GG, ext g g' nxt ∧ okl g' lf.2.2.1 ∧ oc = .returned (lf.1.map (cV g')) ∧ Rh g' HB lf.2.1 t.heap []
def mnW (d : MN) : List Cond := .code (mnY d) (mnC d) (mnL d) (mnR d) :: wsG
/-- what is computed of a call is a contract -/
def SndCN (HB : Heap) (l : Launch) (n0 : Nat) (M : Nat → Option MN) (call : CallN) : Prop :=
  ∀ (id fr lo : Nat) (s : List Item) (av : List AV) (h : List AE) (kn : List LinC) (nxt : Nat) (lv : List LeafN) (mc ms : Nat) (s' : List Item), call id fr lo s av h kn nxt = some (lv, mc, ms, s') → n0 ≤ nxt →
    ∃ d : MN, M id = some d ∧ ∀ g : GG, okl g kn → Met l (mnY d) (mnW d) { frames := fr, cells := mc, slots := ms, locals := lo } (PP g HB av h) (QN g HB lv nxt) mc ms (hiA g)
def endOK (cc : ByteArray) (ret : Option FieldType) (pc kd : Nat) : Prop := match kd with
  | 0 => ret = none ∧ decode cc pc = .ok (.return_, 1)
  | 1 => ret = some .int ∧ decode cc pc = .ok (.ireturn, 1)
  | 2 => decode cc pc = .ok (.ireturn, 1)
  | 3 => (∃ rt, ret = some rt ∧ ((∃ n, rt = .object n) ∨ ∃ t, rt = .array t)) ∧ decode cc pc = .ok (.areturn, 1)
  | 4 => ret = some .long ∧ decode cc pc = .ok (.lreturn, 1)
  | _ => False
/-- a method whose steps and ends are the machine's -/
def MNok (HB : Heap) (l : Launch) (n0 : Nat) (M : Nat → Option MN) (d : MN) : Prop :=
  plainName (mnY d).cls = true ∧ (∀ x ∈ mnE d, endOK (mnC d) (mnR d) x.1 x.2) ∧
  ∀ (call : CallN) (fr lo : Nat), SndCN HB l n0 M call → TOK HB l (mnC d) (mnL d) (mnY d).cls (mnY d).name ((mnK d, []), (mnZ d, []), fr, lo) n0 (mnT d call)
/-- the end of a method, at a leaf -/
theorem leaf_end {HB : Heap} {l : Launch} {d : MN} {y : NC} {lf : LeafN} {lv : List LeafN} {nxt : Nat} (hE : ∀ x ∈ mnE d, endOK (mnC d) (mnR d) x.1 x.2) (hy : leafOf d y = some lf) (hm : lf ∈ lv) {g g' : GG} (he : ext g g' nxt)
    {p : Program} {e : Env} {R : Room} {s : State} {m : MethodId} {args : Array Value} {below : List Frame} {meth : Method} {c : Code} {fr lo : Nat} (hx : p.tables.exec = Jvm.exec) (hb : c.code = mnC d) (hret : meth.sig.returnType = mnR d) (hlocks : meth.locks = false) :
    NW HB p l e R s m args below meth c (mnC d) (mnL d) (mnY d).cls (mnY d).name ((mnK d, []), (mnZ d, []), fr, lo) (MQ below (QN g HB lv nxt) args s (mnK d) (mnZ d) (hiA g)) g' y := by
  obtain ⟨pc, L, st, h, k, z, kn, nn⟩ := y
  intro hok hC hr hkz H1 locs1 ls1 hR1 hl1
  simp only [leafOf] at hy
  cases ha : alk (mnE d) pc with
  | none => rw [ha] at hy; cases hy
  | some kd =>
    rw [ha] at hy
    simp only at hy
    cases hrv : retv (mnR d) kd st with
    | none => rw [hrv] at hy; cases hy
    | some rv =>
      rw [hrv] at hy
      simp only at hy
      cases hcl : cLe k (mnK d) && cLe z (mnZ d) with
      | false => rw [hcl] at hy; cases hy
      | true =>
        rw [hcl] at hy
        cases hy
        rw [Bool.and_eq_true] at hcl
        have hA : hiA g' = hiA g := by funext q; unfold hiA; rw [he.1]
        refine W.widen (cLe_ok hcl.1 g') (cLe_ok hcl.2 g') ?_
        have hlocs : ∀ q ∈ locs1, hiA g q.base := fun q hq => by rw [← hA]; exact hR1.2.2.2 q hq
        have hq : ∀ v : Option Value, rv.map (cV g') = v → ∀ t : State, t.heap = H1 → s.WarmedH t.vm → QN g HB lv nxt args s (.returned v) t := fun v hv t ht _ => ⟨_, hm, g', he, hok, by rw [hv], by rw [ht]; exact hR1.nolocs⟩
        have hE1 := hE _ (alk_mem ha)
        rcases st with _ | ⟨a, _ | ⟨a2, r⟩⟩
        · rcases kd with _ | kd
          · cases hrv
            exact W.vret hx hb (hret.trans hE1.1) (hq none rfl) hlocs hE1.2 hlocks
          · cases hrv
        · rcases kd with _ | _ | _ | _ | _ | kd
          · cases hrv
          · simp only [retv] at hrv
            cases hi : isI a with
            | false => rw [hi] at hrv; cases hrv
            | true =>
              rw [hi] at hrv
              cases hrv
              rw [List.map_cons, cV_I hi]
              exact W.iret hx hb (hret.trans hE1.1) (hq _ (congrArg some (cV_I hi))) hlocs hE1.2 hlocks
          · rcases a with x | a
            · simp only [retv] at hrv
              cases hty : mnR d with
              | none => rw [hty] at hrv; cases hrv
              | some ty =>
                rw [hty] at hrv
                simp only at hrv
                cases hn : decide (narrow ty (.int (nI x)) = .int (nI x)) with
                | false => rw [hn] at hrv; cases hrv
                | true =>
                  rw [hn] at hrv
                  cases hrv
                  exact W.zret (v := nI x) hx hb (hret.trans hty) (of_decide_eq_true hn) (hq _ rfl) hlocs hE1 hlocks
            · cases hrv
          · simp only [retv] at hrv
            cases hi : isR a || isN a with
            | false => rw [hi] at hrv; cases hrv
            | true =>
              rw [hi] at hrv
              cases hrv
              obtain ⟨⟨rt, hrt, hrt2⟩, hdg⟩ := hE1
              have hv : cV g' a = .null ∨ ∃ q, cV g' a = .ref q := by
                rw [Bool.or_eq_true] at hi
                rcases hi with hi | hi
                · exact Or.inr ⟨_, cV_R hi⟩
                · rcases a with a | a | v
                  · cases hi
                  · cases hi
                  · cases v <;> first | cases hi | skip
                    exact Or.inl rfl
              exact W.aret hx hb (hret.trans hrt) hrt2 hv (hq _ rfl) hlocs hdg hlocks
          · simp only [retv] at hrv
            cases hi : isL a with
            | false => rw [hi] at hrv; cases hrv
            | true =>
              rw [hi] at hrv
              cases hrv
              rw [List.map_cons, cV_L hi]
              exact W.lret hx hb (hret.trans hE1.1) (hq _ (congrArg some (cV_L hi))) hlocs hE1.2 hlocks
          · cases hrv
        · cases hrv
theorem callN_ok {HB : Heap} {l : Launch} {n0 : Nat} {M : Nat → Option MN} (hK : Keeps HB n0) (hM : ∀ id d, M id = some d → MNok HB l n0 M d) : ∀ f : Nat, SndCN HB l n0 M (callN M f) := by
  intro f
  induction f with
  | zero => intro id fr lo s av h kn nxt lv mc ms s' hf; cases hf
  | succ f ih =>
    intro id fr lo s av h kn nxt lv mc ms s' hf hn
    simp only [callN] at hf
    cases hd : M id with
    | none => rw [hd] at hf; cases hf
    | some d =>
      rw [hd] at hf
      simp only at hf
      cases hb0 : Nat.ble (slen av) (mnL d) with
      | false => rw [hb0] at hf; cases hf
      | true =>
        rw [hb0] at hf
        simp only at hf
        cases hr : nrun (mnT d (callN M f)) (mnH d) (mnN d) ((mnE d).map (fun q => q.1)) s [(0, argsA 0 av, [], h, (0, []), (0, []), kn, nxt)] with
        | none => rw [hr] at hf; cases hf
        | some r =>
          obtain ⟨ys, s1⟩ := r
          rw [hr] at hf
          simp only at hf
          cases hlv : leavesOf d ys with
          | none => rw [hlv] at hf; cases hf
          | some lv1 =>
            rw [hlv] at hf
            cases hf
            obtain ⟨hpl, hE, hTk⟩ := hM id d hd
            refine ⟨d, rfl, fun g hok => ?_⟩
            have hT := hTk (callN M f) fr lo ih
            have hs := nrun_ok hT hK ⟨rfl, rfl⟩ (mnN d) _ s _ ys s' hr nxt hn (fun x hx => by rw [List.mem_singleton.mp hx]; exact Nat.le_refl _) _ List.mem_cons_self
            refine Met.ofW (cc := mnC d) (maxL := mnL d) (ret := mnR d) hpl rfl ?_
            intro p e s9 m args below meth c s₁ B hml hv
            obtain ⟨rfl, hR0, hKA⟩ := hv
            have hts0 := atoms_spec (ws := mnW d) B.pre
            have hC : Cx g HB p s9 m (av.map (cV g)).toArray meth c (mnC d) (mnL d) (mnY d).cls (mnY d).name :=
              ⟨⟨B.exec, B.bytes, hml, findClass_of_methodNamed B.named, fun w hw => hts0 w (List.mem_cons_of_mem _ hw)⟩, hKA, (name_of_methodNamed B.named B.method).1⟩
            have hle : (lg_sl (av.map (cV g))).length ≤ mnL d := by rw [slen_eq]; exact Nat.ble_eq.mp hb0
            have hl := lv_entry (av.map (cV g)) hle
            rw [lg_entry_eq]
            generalize (lg_sl (av.map (cV g)) ++ List.replicate (mnL d - (lg_sl (av.map (cV g))).length) Slot.unset).toArray = ls at hl ⊢
            rw [← argsA_eq] at hl
            have key := hs p e (headSpec (mnW d) { frames := fr, cells := mnK d, slots := mnZ d, locals := lo }).room s9 m _ below meth c (MQ below (QN g HB lv nxt) (av.map (cV g)).toArray s9 (mnK d) (mnZ d) (hiA g)) g (fun y hy g' he => by
              obtain ⟨lf, h1, h2⟩ := leavesOf_ok hlv y hy
              exact leaf_end hE h2 h1 he B.exec B.bytes B.returns B.notSynchronized)
            exact key hok hC ⟨Nat.le_refl _, Nat.le_refl _, Nat.le_refl _, Nat.le_refl _⟩ ⟨Nat.zero_le _, Nat.zero_le _⟩ s9.heap [] ls hR0 hl
