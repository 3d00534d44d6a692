/-! The calls' steps: static methods, constructors, an object's methods. -/
def MNC (d : MN) (np : Nat) : Prop := Cond.code (mnY d) (mnC d) (mnL d) (mnR d) ∈ wsG ∧ (mnY d).cls ≠ "java/lang/invoke/MethodHandle" ∧ (mnY d).cls ≠ "java/lang/invoke/VarHandle" ∧ (parseMethodDescriptor (mnY d).desc).map (fun d => d.parameters.length) = some np
theorem mnW_good {d : MN} (h : Cond.code (mnY d) (mnC d) (mnL d) (mnR d) ∈ wsG) : GoodIn wsG (mnW d) := fun w hw => by
  rcases List.mem_cons.mp hw with rfl | hw
  · exact wsG_good _ h
  · exact wsG_good _ hw
/-- what a row of a call gives: the callee's leaves, here -/
def RowC (HB : Heap) (cc : ByteArray) (nL : Nat) (own nm : String) (pc : Nat) (d : MN) (w : Nat) (av r st : List AV) (h : List AE) : Prop :=
  ∀ (l : Launch) (g : GG) (p : Program) (e : Env) (R : Room) (s : State) (m : MethodId) (args : Array Value) (below : List Frame) (meth : Method) (c : Code) (H : Heap) (locs : List Loc) (cells slots : Nat) (ls : Array Slot) (fr lo mc ms nxt : Nat) (lv : List LeafN),
    Cx g HB p s m args meth c cc nL own nm → Rh g HB h H locs → ls.size = nL → Met l (mnY d) (mnW d) { frames := fr, cells := mc, slots := ms, locals := lo } (PP g HB av h) (QN g HB lv nxt) mc ms (hiA g) → fr + 1 ≤ R.frames → lo + w ≤ R.locals → slen r ≤ 8 → cells + mc ≤ R.cells ∧ slots + ms ≤ R.slots →
      va_Run p l e R s m args below meth c H locs cells slots mc ms (F0 m pc ls (st.map (cV g))) (r.map (cV g)) (QN g HB lv nxt (av.map (cV g)).toArray) (hiA g)
def rvL (rv : Option AV) (r : List AV) : List AV := match rv with
  | none => r
  | some v => v :: r
def cLe2 (a b : Cnt) : Bool := match a.2 with
  | [] => Nat.ble a.1 b.1
  | _ :: _ => false
theorem cLe2_ok {a b : Cnt} (h : cLe2 a b = true) (g : GG) : cv g a ≤ cv g b := by
  obtain ⟨x, y⟩ := a
  rcases y with _ | ⟨i, t⟩
  · have h1 : x ≤ b.1 := Nat.ble_eq.mp h
    show x + 0 ≤ b.1 + cvs g b.2
    omega
  · cases h
def goN (call : CallN) (u : NU) (id w n : Nat) (s : List Item) (L : LL) (av r : List AV) (h : List AE) (k z : Cnt) (kn : List LinC) (nxt : Nat) : Option (List NC × List Item) := match u.2.2.1 with
  | 0 => none
  | fr + 1 => match Nat.ble w u.2.2.2 && (Nat.ble (slen r) 8 && (lBel nxt L && (sBel nxt r && (cBel nxt k && cBel nxt z)))) with
    | false => none
    | true => match fz (u.2.2.2 - w) (fun lo => call id fr lo s av h kn nxt) with
      | none => none
      | some (lv, mc, ms, s') => match cLe2 (cInc k mc) u.1 && cLe2 (cInc z ms) u.2.1 with
        | false => none
        | true => some (lv.map (fun lf => (n, L, rvL lf.1 r, lf.2.1, cInc k mc, cInc z ms, lf.2.2.1, lf.2.2.2)), s')
theorem goN_ok {HB : Heap} {l : Launch} {cc : ByteArray} {nL : Nat} {own nm : String} {u : NU} {n0 : Nat} {M : Nat → Option MN} {call : CallN} {d : MN} {id w pc : Nat} {s s' : List Item} {L : LL} {av r st : List AV} {h : List AE} {k z : Cnt} {kn : List LinC} {nxt : Nat} {ls : List NC}
    (hK : Keeps HB n0) (hu : cBel n0 u.1 = true ∧ cBel n0 u.2.1 = true) (hC0 : SndCN HB l n0 M call) (hM : M id = some d) (hrow : RowC HB cc nL own nm pc d w av r st h) (hf : goN call u id w (pc + 3) s L av r h k z kn nxt = some (ls, s')) :
    ∀ n, n0 ≤ n → n ≤ nxt → NSnd HB l cc nL own nm u n (pc, L, st, h, k, z, kn, nxt) ls := by
  intro n hn hnx
  unfold goN at hf
  obtain ⟨kU, zU, fr0, lo0⟩ := u
  rcases fr0 with _ | fr
  · cases hf
  simp only [fz_eq] at hf
  cases hb : Nat.ble w lo0 && (Nat.ble (slen r) 8 && (lBel nxt L && (sBel nxt r && (cBel nxt k && cBel nxt z)))) with
  | false => rw [hb] at hf; cases hf
  | true =>
    rw [hb] at hf
    simp only at hf
    cases hc : call id fr (lo0 - w) s av h kn nxt with
    | none => rw [hc] at hf; cases hf
    | some q =>
      obtain ⟨lv, mc, ms, s1⟩ := q
      rw [hc] at hf
      simp only at hf
      cases hq : cLe2 (cInc k mc) kU && cLe2 (cInc z ms) zU with
      | false => rw [hq] at hf; cases hf
      | true =>
        rw [hq] at hf
        cases hf
        simp only [Bool.and_eq_true] at hb hq
        obtain ⟨b1, b2, b3, b4, b5, b6⟩ := hb
        obtain ⟨d2, e2, hmet⟩ := hC0 _ _ _ _ _ _ _ _ _ _ _ _ hc (Nat.le_trans hn hnx)
        cases hM.symm.trans e2
        intro p e R s9 m args below meth c Q g hy hok hC hr hkz H locs ls9 hR hl
        have q1 := cLe2_ok hq.1 g
        have q2 := cLe2_ok hq.2 g
        rw [cv_inc] at q1 q2
        have hw1 : w ≤ lo0 := Nat.ble_eq.mp b1
        have hr1 : cv g kU ≤ R.cells := hr.1
        have hr2 : cv g zU ≤ R.slots := hr.2.1
        have hr3 : fr + 1 ≤ R.frames := hr.2.2.1
        have hr4 : lo0 ≤ R.locals := hr.2.2.2
        have hrun := hrow l g p e R s9 m args below meth c H locs (cv g k) (cv g z) ls9 fr (lo0 - w) mc ms nxt lv hC hR hl.1 (hmet g hok) hr3 (by omega) (Nat.ble_eq.mp b2) ⟨by omega, by omega⟩
        intro T hT X
        obtain ⟨v, st₀, t, T', L9, h0, X', hL2, f1, f2, ⟨lf, hlf, g', he, hok', hv, hR'⟩, hst⟩ := hrun T hT X
        have hv : v = lf.1.map (cV g') := by cases hv; rfl
        subst hv
        have hen := he.mono hnx
        have hC' : Cx g' HB p s9 m args meth c cc nL own nm := ⟨hC.1, hK g g' s9 (hen.mono hn) hC.2.1, hC.2.2⟩
        have c1 := cBel_ok b5 he
        have c2 := cBel_ok b6 he
        have u1 := cBel_ok hu.1 (hen.mono hn)
        have u2 := cBel_ok hu.2 (hen.mono hn)
        have hA : hiA g' = hiA g := by funext q; unfold hiA; rw [he.1]
        have hR2 : Rh g' HB lf.2.1 T'.heap (locs ++ L9) := by
          rw [f1]
          exact ⟨hR'.1, hR'.2.1, hR'.2.2.1, fun q hq => by
            rcases List.mem_append.mp hq with w | w
            · rw [he.1]; exact hR.2.2.2 q w
            · have := hL2 q w
              rw [← hA] at this
              exact this⟩
        have hw := hy _ (List.mem_map.mpr ⟨lf, hlf, rfl⟩) g' hen hok' hC' ⟨by rw [u1]; exact hr1, by rw [u2]; exact hr2, hr3, hr4⟩ ⟨by rw [cv_inc, c1]; omega, by rw [cv_inc, c2]; omega⟩ T'.heap (locs ++ L9) ls9 hR2 (by rw [lBel_ok b3 he]; exact hl)
        rw [cv_inc, cv_inc, c1, c2] at hw
        have es : (rvL lf.1 r).map (cV g') = (lf.1.map (cV g')).toList ++ r.map (cV g) := by
          cases lf.1 with
          | none => exact sBel_ok b4 he
          | some v =>
            show cV g' v :: r.map (cV g') = cV g' v :: r.map (cV g)
            rw [sBel_ok b4 he]
        rw [es] at hw
        obtain ⟨t2, a1, b1⟩ := hw T' rfl X'
        exact ⟨t2, hst t2 a1, b1⟩
section ROWS
variable {HB : Heap} {cc : ByteArray} {nL : Nat} {own nm : String} {pc w np idx : Nat} {d : MN} {av r st as : List AV} {h : List AE}
theorem row_S (hd0 : MNC d np) (hw : w = mnL d + 19) (h1 : Cond.methodLink own idx (mnY d) ∈ wsG) (h2 : Cond.static (mnY d) ∈ wsG) (h3 : Cond.initialized (mnY d).cls ∈ wsG) (hd : decode cc pc = .ok (.invokestatic idx, 3)) (hp : popN np st [] = some (av, r)) : RowC HB cc nL own nm pc d w av r st h := by
  intro l g p e R s m args below meth c H locs cells slots ls fr lo mc ms nxt lv hC hR hl hmet hfr hlo h8 hroom
  obtain ⟨⟨hx, hb, hml, hown, hts⟩, hA, -⟩ := hC
  obtain ⟨hst, hln⟩ := popN_st (g := g) hp
  have hG : GoodIn wsG (va_wsS own idx (mnY d) (mnW d)) := fun w hw => by
    unfold va_wsS at hw
    rcases List.mem_append.mp hw with hw | hw
    · simp only [List.mem_cons, List.not_mem_nil, or_false] at hw
      rcases hw with rfl | rfl | rfl
      · exact wsG_good _ h1
      · exact wsG_good _ h2
      · exact wsG_good _ h3
    · exact mnW_good hd0.1 w hw
  have cw := va_cwS (R := R) (mc := mc) (ms := ms) (maxL := mnL d) (ret := mnR d) (bytes := mnC d) (ws' := wsG) (rm := { frames := fr, cells := mc, slots := ms, locals := lo }) np hts hG rfl rfl rfl hd0.2 ⟨hfr, by show 8 + (mnL d + 11) + lo ≤ R.locals; omega⟩
  exact va_runS (g := F0 m pc ls (st.map (cV g))) (As := av.map (cV g)) (rest := r.map (cV g)) ⟨hx, hb, hml, hown, hts⟩ hmet cw ⟨PP.blind _ _ _ _, pre_of hA hR⟩ rfl hln hl hst (room8 g h8) hd hroom
theorem row_V {ci q : Nat} {C : String} {T : u_T} {N : Nat} {fs : List AV} (hc : vwCl[ci]? = some (C, T, N)) (hd0 : MNC d np) (hw : w = mnL d + 19) (hcls : (mnY d).cls = C) (h1 : Cond.methodLink own idx (mnY d) ∈ wsG) (h2 : Cond.instanceMethod (mnY d) ∈ wsG) (h3 : Cond.selects C (mnY d) (mnY d) ∈ wsG) (h4 : Cond.initialized C ∈ wsG)
    (hd : decode cc pc = .ok (.invokevirtual idx, 3)) (hp : popN np st [] = some (as, .inr (.inr (.ref q)) :: r)) (hq : h[q]? = some (.inr (ci, fs))) : RowC HB cc nL own nm pc d w (.inr (.inr (.ref q)) :: as) r st h := by
  intro l g p e R s m args below meth c H locs cells slots ls fr lo mc ms nxt lv hC hR hl hmet hfr hlo h8 hroom
  obtain ⟨⟨hx, hb, hml, hown, hts⟩, hA, -⟩ := hC
  obtain ⟨hst, hln⟩ := popN_st (g := g) hp
  have hG : GoodIn wsG (wsV own idx C (mnY d) (mnW d)) := fun w hw => by
    unfold wsV at hw
    rcases List.mem_append.mp hw with hw | hw
    · simp only [List.mem_cons, List.not_mem_nil, or_false] at hw
      rcases hw with rfl | rfl | rfl | rfl
      · exact wsG_good _ h1
      · exact wsG_good _ h2
      · exact wsG_good _ h3
      · exact wsG_good _ h4
    · exact mnW_good hd0.1 w hw
  have cw := cwV (R := R) (mc := mc) (ms := ms) (maxL := mnL d) (ret := mnR d) (bytes := mnC d) (ws' := wsG) (rm := { frames := fr, cells := mc, slots := ms, locals := lo }) np hts hG rfl rfl rfl ⟨hcls, hd0.2⟩ ⟨hfr, by show 8 + (mnL d + 11) + lo ≤ R.locals; omega⟩
  exact va_runV (g := F0 m pc ls (st.map (cV g))) (C := C) (b := g.1 + q) (As := as.map (cV g)) (rest := r.map (cV g)) ⟨hx, hb, hml, hown, hts⟩ hmet cw ⟨PP.blind _ _ _ _, va_recv hA.1 hR.2.2.1 hc (Rh.ws hq), pre_of (av := .inr (.inr (.ref q)) :: as) hA hR⟩ rfl hln hl hst (room8 g h8) hd hroom
end ROWS
/-- a static call -/
def n_cS (u : NU) (id np w n : Nat) : CallN → NF := fun call s x => match x with
  | (_, L, st, h, k, z, kn, nxt) => match popN np st [] with
    | none => none
    | some (av, r) => goN call u id w n s L av r h k z kn nxt
theorem n_cS_ok {HB : Heap} {l : Launch} {cc : ByteArray} {nL : Nat} {own nm : String} {u : NU} {n0 pc w np idx id n : Nat} {M : Nat → Option MN} {call : CallN} {d : MN} (hK : Keeps HB n0) (hu : cBel n0 u.1 = true ∧ cBel n0 u.2.1 = true) (hC0 : SndCN HB l n0 M call) (hM : M id = some d)
    (hd0 : MNC d np) (hw : w = mnL d + 19) (h1 : Cond.methodLink own idx (mnY d) ∈ wsG) (h2 : Cond.static (mnY d) ∈ wsG) (h3 : Cond.initialized (mnY d).cls ∈ wsG) (hd : decode cc pc = .ok (.invokestatic idx, 3)) (hn : pc + 3 = n) : NFok HB l cc nL own nm u n0 pc (n_cS u id np w n call) := by
  intro s x ls s' hpc hf n9 g1 g2
  obtain ⟨pc0, L, st, h, k, z, kn, nxt⟩ := x
  have hpc : pc0 = pc := hpc
  subst hpc hn
  simp only [n_cS] at hf
  cases hp : popN np st [] with
  | none => rw [hp] at hf; cases hf
  | some q =>
    obtain ⟨av, r⟩ := q
    rw [hp] at hf
    exact goN_ok hK hu hC0 hM (row_S hd0 hw h1 h2 h3 hd hp) hf n9 g1 g2
/-- a call of an object's method: the object is of class ci -/
def n_cV (u : NU) (ci id np w n : Nat) : CallN → NF := fun call s x => match x with
  | (_, L, st, h, k, z, kn, nxt) => match popN np st [] with
    | none => none
    | some (as, r0) => match r0 with
      | [] => none
      | a :: r => match rOf a with
        | none => none
        | some q => match h[q]? with
          | none => none
          | some ce => match ce with
            | .inl _ => none
            | .inr cf => match Nat.beq ci cf.1 with
              | true => goN call u id w n s L (a :: as) r h k z kn nxt
              | false => none
theorem n_cV_ok {HB : Heap} {l : Launch} {cc : ByteArray} {nL : Nat} {own nm : String} {u : NU} {n0 pc w np idx id n ci : Nat} {C : String} {T : u_T} {N : Nat} {M : Nat → Option MN} {call : CallN} {d : MN} (hK : Keeps HB n0) (hu : cBel n0 u.1 = true ∧ cBel n0 u.2.1 = true) (hc : vwCl[ci]? = some (C, T, N)) (hC0 : SndCN HB l n0 M call) (hM : M id = some d)
    (hd0 : MNC d np) (hw : w = mnL d + 19) (hcls : (mnY d).cls = C) (h1 : Cond.methodLink own idx (mnY d) ∈ wsG) (h2 : Cond.instanceMethod (mnY d) ∈ wsG) (h3 : Cond.selects C (mnY d) (mnY d) ∈ wsG) (h4 : Cond.initialized C ∈ wsG) (hd : decode cc pc = .ok (.invokevirtual idx, 3)) (hn : pc + 3 = n) : NFok HB l cc nL own nm u n0 pc (n_cV u ci id np w n call) := by
  intro s x ls s' hpc hf n9 g1 g2
  obtain ⟨pc0, L, st, h, k, z, kn, nxt⟩ := x
  have hpc : pc0 = pc := hpc
  subst hpc hn
  simp only [n_cV] at hf
  cases hp : popN np st [] with
  | none => rw [hp] at hf; cases hf
  | some q =>
    obtain ⟨as, r0⟩ := q
    rw [hp] at hf
    rcases r0 with _ | ⟨a, r⟩
    · cases hf
    simp only at hf
    cases ha : rOf a with
    | none => rw [ha] at hf; cases hf
    | some q =>
      rw [ha] at hf
      have ea := rOf_eq ha
      subst ea
      simp only at hf
      cases hq : h[q]? with
      | none => rw [hq] at hf; cases hf
      | some ce =>
        rw [hq] at hf
        rcases ce with ce | ⟨cj, fs⟩
        · cases hf
        simp only at hf
        cases hb : Nat.beq ci cj with
        | false => rw [hb] at hf; cases hf
        | true =>
          rw [hb] at hf
          have e := Nat.eq_of_beq_eq_true hb
          subst e
          exact goN_ok hK hu hC0 hM (row_V hc hd0 hw hcls h1 h2 h3 h4 hd hp hq) hf n9 g1 g2
