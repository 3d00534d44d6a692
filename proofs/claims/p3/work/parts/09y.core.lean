/-! The walk by templates: a run has leaves, a leaf is told at every ground that agrees below a number. -/
/-- pc, locals, stack, cells, cells made, slots made, what is known, the next symbol -/
abbrev NC : Type := Nat × LL × List AV × List AE × Cnt × Cnt × List LinC × Nat
/-- the room of the method that is walked: cells, slots, frames, locals -/
abbrev NU : Type := Cnt × Cnt × Nat × Nat
def nx (x : NC) : Nat := x.2.2.2.2.2.2.2
def cBel (n : Nat) (k : Cnt) : Bool := k.2.all (fun i => Nat.blt i n)
theorem cBel_ok {g g' : GG} {n : Nat} {k : Cnt} (h : cBel n k = true) (he : ext g g' n) : cv g' k = cv g k := by
  have key : ∀ l : List Nat, (∀ i ∈ l, i < n) → cvs g' l = cvs g l := by
    intro l
    induction l with
    | nil => intro _; rfl
    | cons i t ih =>
      intro hl
      show (rho g' i).toNat + cvs g' t = (rho g i).toNat + cvs g t
      rw [rho_ext he (hl i List.mem_cons_self), ih (fun j hj => hl j (List.mem_cons_of_mem _ hj))]
  show k.1 + cvs g' k.2 = k.1 + cvs g k.2
  rw [key k.2 (fun i hi => Nat.blt_eq.mp (List.all_eq_true.mp h i hi))]
/-- what is to be shown of a leaf, at a ground -/
def NW (HB : Heap) (p : Program) (l : Launch) (e : Env) (R : Room) (s : State) (m : MethodId) (args : Array Value) (below : List Frame) (meth : Method) (c : Code) (cc : ByteArray) (nL : Nat) (own nm : String) (u : NU) (Q : State → Prop) (g : GG) (x : NC) : Prop :=
  match x with
  | (pc, L, st, h, k, z, kn, _) => okl g kn → Cx g HB p s m args meth c cc nL own nm → cv g u.1 ≤ R.cells ∧ cv g u.2.1 ≤ R.slots ∧ u.2.2.1 ≤ R.frames ∧ u.2.2.2 ≤ R.locals → cv g k ≤ R.cells ∧ cv g z ≤ R.slots →
      ∀ (H : Heap) (locs : List Loc) (ls : Array Slot), Rh g HB h H locs → lv_has ls nL (cL g L) → W p l e R s m args below meth c H locs (cv g k) (cv g z) Q (F0 m pc ls (st.map (cV g)))
/-- from x the machine comes to one of ys, at a ground that agrees with x's below n -/
def NSnd (HB : Heap) (l : Launch) (cc : ByteArray) (nL : Nat) (own nm : String) (u : NU) (n : Nat) (x : NC) (ys : List NC) : Prop :=
  ∀ (p : Program) (e : Env) (R : Room) (s : State) (m : MethodId) (args : Array Value) (below : List Frame) (meth : Method) (c : Code) (Q : State → Prop) (g : GG),
    (∀ y ∈ ys, ∀ g' : GG, ext g g' n → NW HB p l e R s m args below meth c cc nL own nm u Q g' y) → NW HB p l e R s m args below meth c cc nL own nm u Q g x
section CORE
variable {HB : Heap} {l : Launch} {cc : ByteArray} {nL : Nat} {own nm : String} {u : NU}
theorem NSnd.self {n : Nat} {x : NC} : NSnd HB l cc nL own nm u n x [x] := fun p e R s m args below meth c Q g h => h x List.mem_cons_self g (ext.refl g n)
/-- fewer numbers are promised to agree -/
theorem NSnd.down {n n' : Nat} {x : NC} {ys : List NC} (h : NSnd HB l cc nL own nm u n x ys) (hn : n' ≤ n) : NSnd HB l cc nL own nm u n' x ys :=
  fun p e R s m args below meth c Q g hy => h p e R s m args below meth c Q g fun y hm g' he => hy y hm g' (he.mono hn)
/-- one leaf is walked on -/
theorem NSnd.on {n : Nat} {x y : NC} {ys zs : List NC} (h : NSnd HB l cc nL own nm u n x (y :: ys)) (h2 : NSnd HB l cc nL own nm u n y zs) : NSnd HB l cc nL own nm u n x (zs ++ ys) := by
  intro p e R s m args below meth c Q g hy
  refine h p e R s m args below meth c Q g fun y' hm g' he => ?_
  rcases List.mem_cons.mp hm with rfl | hm
  · exact h2 p e R s m args below meth c Q g' fun z hz g2 he2 => hy z (List.mem_append_left _ hz) g2 (he.trans he2 (Nat.le_refl n))
  · exact hy y' (List.mem_append_right _ hm) g' he
/-- leaves in another order, or told once -/
theorem NSnd.sub {n : Nat} {x : NC} {ys zs : List NC} (h : NSnd HB l cc nL own nm u n x ys) (hs : ∀ y ∈ ys, y ∈ zs) : NSnd HB l cc nL own nm u n x zs :=
  fun p e R s m args below meth c Q g hy => h p e R s m args below meth c Q g fun y hm g' he => hy y (hs y hm) g' he
/-- a leaf that can't be -/
theorem NSnd.cut {n pc nxt : Nat} {L : LL} {st : List AV} {h : List AE} {k z : Cnt} {kn : List LinC} {ce : Cert} (hc : lcert kn ce (-1, []) = true) : NSnd HB l cc nL own nm u n (pc, L, st, h, k, z, kn, nxt) [] :=
  fun p e R s m args below meth c Q g _ hok => (lcert_no hok hc).elim
/-- a step of the old kind, that asks nothing -/
theorem NSnd.old {f : FF} {call : CallF} {n pc pc' nxt : Nat} {L L' : LL} {st st' : List AV} {h h' : List AE} {k z : Cnt} {o' : List Bool} {kn : List LinC} (hS : ∀ g : GG, Snd g HB l call cc nL own nm pc f)
    (hf : f call u.2.2.1 u.2.2.2 (pc, L, st, h, k, z, [], []) = some (pc', L', st', h', k, z, o', [])) : NSnd HB l cc nL own nm u n (pc, L, st, h, k, z, kn, nxt) [(pc', L', st', h', k, z, kn, nxt)] := by
  intro p e R s m args below meth c Q g hy hok hC hr hkz H locs ls hR hl
  refine (hS g u.2.2.1 u.2.2.2 L st h k z [] [] pc' L' st' h' k z o' [] hf).2 (fun q hq => by cases hq) p e R s m args below meth c Q H locs ls hC hr.2.2.1 hr.2.2.2 hkz.1 hkz.2 hR hl (fun H' locs' ls' hR' hl' => ?_)
  exact hy _ List.mem_cons_self g (ext.refl g n) hok hC hr hkz H' locs' ls' hR' hl'
/-- a branch on what isn't known: both ways, each with what it tells -/
theorem NSnd.fork {f : FF} {call : CallF} {n pc p1 p2 nxt : Nat} {L : LL} {st st' : List AV} {h : List AE} {k z : Cnt} {q : Nat × AV × AV} {kn k1 k2 : List LinC} (hS : ∀ g : GG, Snd g HB l call cc nL own nm pc f)
    (hf1 : f call u.2.2.1 u.2.2.2 (pc, L, st, h, k, z, [true], []) = some (p1, L, st', h, k, z, [], [(q.1, q.2.1, q.2.2, true)]))
    (hf2 : f call u.2.2.1 u.2.2.2 (pc, L, st, h, k, z, [false], []) = some (p2, L, st', h, k, z, [], [(q.1, q.2.1, q.2.2, false)]))
    (h1 : ∀ g : GG, okl g kn → cnd q.1 (gI g q.2.1) (gI g q.2.2) = true → okl g k1) (h2 : ∀ g : GG, okl g kn → cnd q.1 (gI g q.2.1) (gI g q.2.2) = false → okl g k2) :
    NSnd HB l cc nL own nm u n (pc, L, st, h, k, z, kn, nxt) [(p1, L, st', h, k, z, k1, nxt), (p2, L, st', h, k, z, k2, nxt)] := by
  intro p e R s m args below meth c Q g hy hok hC hr hkz H locs ls hR hl
  cases hb : cnd q.1 (gI g q.2.1) (gI g q.2.2) with
  | true =>
    refine (hS g u.2.2.1 u.2.2.2 L st h k z [true] [] p1 L st' h k z [] _ hf1).2 (fun x hx => by rw [List.mem_singleton.mp hx]; exact hb) p e R s m args below meth c Q H locs ls hC hr.2.2.1 hr.2.2.2 hkz.1 hkz.2 hR hl (fun H' locs' ls' hR' hl' => ?_)
    exact hy _ List.mem_cons_self g (ext.refl g n) (h1 g hok hb) hC hr hkz H' locs' ls' hR' hl'
  | false =>
    refine (hS g u.2.2.1 u.2.2.2 L st h k z [false] [] p2 L st' h k z [] _ hf2).2 (fun x hx => by rw [List.mem_singleton.mp hx]; exact hb) p e R s m args below meth c Q H locs ls hC hr.2.2.1 hr.2.2.2 hkz.1 hkz.2 hR hl (fun H' locs' ls' hR' hl' => ?_)
    exact hy _ (List.mem_cons_of_mem _ List.mem_cons_self) g (ext.refl g n) (h2 g hok hb) hC hr hkz H' locs' ls' hR' hl'
/-- y at a ground is x at another one, which agrees below n -/
def Fits (HB : Heap) (u : NU) (n : Nat) (y x : NC) (g g2 : GG) : Prop := match y, x with
  | (pc, L, st, h, k, z, kn, _), (pc2, L2, st2, h2, k2, z2, kn2, _) =>
    pc2 = pc ∧ ext g g2 n ∧ okl g2 kn2 ∧ st2.map (cV g2) = st.map (cV g) ∧ (∀ q ∈ cL g2 L2, q ∈ cL g L) ∧ cv g k ≤ cv g2 k2 ∧ cv g z ≤ cv g2 z2 ∧ (cv g2 k2 ≤ cv g u.1 ∨ cv g2 k2 = cv g k) ∧ (cv g2 z2 ≤ cv g u.2.1 ∨ cv g2 z2 = cv g z) ∧
      ∀ (H : Heap) (locs : List Loc), Rh g HB h H locs → Rh g2 HB h2 H locs
/-- what a ground that agrees knows of what stands outside -/
def Keeps (HB : Heap) (n : Nat) : Prop := ∀ (g g2 : GG) (U : State), ext g g2 n → KA g HB U → KA g2 HB U
theorem keeps400 (HB : Heap) {n : Nat} (hn : 400 ≤ n) : Keeps HB n := fun _ _ _ he h => h.ext (he.mono hn)
theorem fits_W {n : Nat} {x y : NC} {g g2 : GG} {p : Program} {e : Env} {R : Room} {s : State} {m : MethodId} {args : Array Value} {below : List Frame} {meth : Method} {c : Code} {Q : State → Prop} (hK : Keeps HB n) (hu : cBel n u.1 = true ∧ cBel n u.2.1 = true)
    (hF : Fits HB u n y x g g2) (hx : NW HB p l e R s m args below meth c cc nL own nm u Q g2 x) : NW HB p l e R s m args below meth c cc nL own nm u Q g y := by
  obtain ⟨pc, L, st, h, k, z, kn, nn⟩ := y
  obtain ⟨pc2, L2, st2, h2, k2, z2, kn2, nn2⟩ := x
  obtain ⟨rfl, he, ho, e1, e2, e3, e4, e5, e6, e7⟩ := hF
  intro hok hC hr hkz H locs ls hR hl
  have hU1 := cBel_ok hu.1 he
  have hU2 := cBel_ok hu.2 he
  have hC2 : Cx g2 HB p s m args meth c cc nL own nm := ⟨hC.1, hK g g2 s he hC.2.1, hC.2.2⟩
  have hw := hx ho hC2 ⟨by rw [hU1]; exact hr.1, by rw [hU2]; exact hr.2.1, hr.2.2⟩ ⟨by rcases e5 with q | q <;> omega, by rcases e6 with q | q <;> omega⟩ H locs ls (e7 H locs hR) ⟨hl.1, hl.2.1, fun q hq => hl.2.2 q (e2 q hq)⟩
  rw [e1] at hw
  exact W.widen e3 e4 hw
/-- the classes of rows whose content isn't known are those of the others -/
def ClsU (g : GG) : Prop := g.2.2.2 10 = g.2.2.2 0 ∧ g.2.2.2 11 = g.2.2.2 1 ∧ g.2.2.2 12 = g.2.2.2 2 ∧ g.2.2.2 13 = g.2.2.2 3
theorem clsU_of {g : GG} {p : Program} {s : State} {m : MethodId} {args : Array Value} {meth : Method} {c : Code} (hC : Cx g HB p s m args meth c cc nL own nm) : ClsU g := hC.2.1.2.2.2.2.2.2.2.2.2
/-- A TEMPLATE: less is told of the same -/
theorem NSnd.weak {n : Nat} {x y : NC} (hK : Keeps HB n) (hu : cBel n u.1 = true ∧ cBel n u.2.1 = true)
    (hF : ∀ g : GG, ClsU g → (match y with | (_, _, _, _, _, _, kn, _) => okl g kn) → ∃ g2, Fits HB u n y x g g2) : NSnd HB l cc nL own nm u n y [x] := by
  intro p e R s m args below meth c Q g hy
  have key : ClsU g → (match y with | (_, _, _, _, _, _, kn, _) => okl g kn) → NW HB p l e R s m args below meth c cc nL own nm u Q g y := by
    intro hcl hok
    obtain ⟨g2, hf⟩ := hF g hcl hok
    have he : ext g g2 n := by
      obtain ⟨pc, L, st, h, k, z, kn, nn⟩ := y
      obtain ⟨pc2, L2, st2, h2, k2, z2, kn2, nn2⟩ := x
      exact hf.2.1
    exact fits_W hK hu hf (hy x List.mem_cons_self g2 he)
  obtain ⟨pc, L, st, h, k, z, kn, nn⟩ := y
  intro hok hC
  exact key (clsU_of hC) hok hok hC
/-- A LOOP: the leaves that come back fit the head again, with less of the measure -/
theorem NSnd.loop {n n0 : Nat} {x : NC} {ys bs : List NC} {mu : LinC} (hn : n0 ≤ n) (hK : Keeps HB n0) (hu : cBel n0 u.1 = true ∧ cBel n0 u.2.1 = true)
    (hbody : NSnd HB l cc nL own nm u n x (ys ++ bs)) (hmu : tBel n mu.2 = true)
    (hback : ∀ y ∈ bs, ∀ g : GG, ClsU g → (match y with | (_, _, _, _, _, _, kn, _) => okl g kn) → ∃ g2, Fits HB u n0 y x g g2 ∧ 0 ≤ lval (rho g) mu ∧ lval (rho g2) mu < lval (rho g) mu) : NSnd HB l cc nL own nm u n0 x ys := by
  intro p e R s m args below meth c Q
  have main : ∀ (N : Nat) (g : GG), lval (rho g) mu < (N : Int) → (∀ y ∈ ys, ∀ g' : GG, ext g g' n0 → NW HB p l e R s m args below meth c cc nL own nm u Q g' y) → NW HB p l e R s m args below meth c cc nL own nm u Q g x := by
    intro N
    induction N with
    | zero =>
      intro g hN hy
      refine hbody p e R s m args below meth c Q g fun y hm g' he => ?_
      rcases List.mem_append.mp hm with hm | hm
      · exact hy y hm g' (he.mono hn)
      · have e0 : lval (rho g') mu = lval (rho g) mu := by unfold lval; rw [tBel_ok he mu.2 hmu]
        have key : ClsU g' → (match y with | (_, _, _, _, _, _, kn, _) => okl g' kn) → NW HB p l e R s m args below meth c cc nL own nm u Q g' y := by
          intro hcl hok
          obtain ⟨g2, hf, hpos, hless⟩ := hback y hm g' hcl hok
          exfalso
          omega
        obtain ⟨pc, L, st, h, k, z, kn, nn⟩ := y
        intro hok hC
        exact key (clsU_of hC) hok hok hC
    | succ N ih =>
      intro g hN hy
      refine hbody p e R s m args below meth c Q g fun y hm g' he => ?_
      rcases List.mem_append.mp hm with hm | hm
      · exact hy y hm g' (he.mono hn)
      · have e0 : lval (rho g') mu = lval (rho g) mu := by unfold lval; rw [tBel_ok he mu.2 hmu]
        have key : ClsU g' → (match y with | (_, _, _, _, _, _, kn, _) => okl g' kn) → NW HB p l e R s m args below meth c cc nL own nm u Q g' y := by
          intro hcl hok
          obtain ⟨g2, hf, hpos, hless⟩ := hback y hm g' hcl hok
          have he2 : ext g' g2 n0 := by
            obtain ⟨pc, L, st, h, k, z, kn, nn⟩ := y
            obtain ⟨pc2, L2, st2, h2, k2, z2, kn2, nn2⟩ := x
            exact hf.2.1
          refine fits_W hK hu hf (ih g2 (by omega) fun y2 hm2 g3 he3 => ?_)
          exact hy y2 hm2 g3 (((he.mono hn).trans he2 (Nat.le_refl n0)).trans he3 (Nat.le_refl n0))
        obtain ⟨pc, L, st, h, k, z, kn, nn⟩ := y
        intro hok hC
        exact key (clsU_of hC) hok hok hC
  intro g hy
  exact main ((lval (rho g) mu).toNat + 1) g (by omega) hy
end CORE
