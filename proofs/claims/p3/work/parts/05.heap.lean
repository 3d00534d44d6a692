/-! The cells, and what a step of a method is. -/
def wsG : List Cond := lw_tbl.filter goodWord
def isNest (w : Cond) : Bool := match w with
  | .fieldLinkNest _ _ _ _ _ _ => true
  | .methodLinkNest _ _ _ _ => true
  | .castable _ _ => true
  | .arrayOver t => match t with
    | .object _ => true
    | _ => false
  | _ => false
def nwL : List Cond := lw_tbl.filter isNest
def KN (U : State) : Prop := ∀ w ∈ nwL, va_Nw w U
def hiA (g : GG) : Nat → Prop := fun q => g.1 ≤ q
/-- what was there before: fields of outside objects, outside arrays, statics, texts by their places, outside objects' classes, the script (its cell 90, its length 91, its ints from 2000 on) -/
def KX (g : GG) (HB : Heap) (U : State) : Prop :=
  (∀ x ∈ xOF, va_OF x.2.1 x.2.2.1 x.2.2.2.1 (cV g x.2.2.2.2) (g.2.1 x.1) (hiA g) U HB) ∧
  (∀ x ∈ xT, va_T x.2.1 (g.2.1 x.1) x.2.2.1 (fun j => .int (x.2.2.2.getD j 0)) (hiA g) U HB) ∧
  (∀ x ∈ xZ, va_Z x.1 x.2.1 x.2.2.1 (cV g x.2.2.2) (hiA g) U HB) ∧
  (∀ x ∈ xR, vk_R x.1 x.2.1 x.2.2.1 (g.2.1 x.2.2.2) U) ∧
  (∀ x ∈ xO, va_O x.2 (g.2.1 x.1) (hiA g) U HB) ∧
  va_T .int (g.2.1 90) (g.2.1 91) (fun j => .int (nI (g.2.1 (2000 + j)))) (hiA g) U HB ∧ g.2.1 91 ≤ 400 ∧ g.2.2.2 10 = g.2.2.2 0 ∧ g.2.2.2 11 = g.2.2.2 1 ∧ g.2.2.2 12 = g.2.2.2 2 ∧ g.2.2.2 13 = g.2.2.2 3
def tysG (g : GG) : List (ClassId × FieldType) := [(g.2.2.2 0, .int), (g.2.2.2 1, .byte), (g.2.2.2 2, .boolean), (g.2.2.2 3, .long), (g.2.2.2 4, .object "java/lang/Object")]
def KA (g : GG) (HB : Heap) (U : State) : Prop := va_K g.2.2.1 vwCl (tysG g) U ∧ KN U ∧ KX g HB U
theorem KX.warm {g : GG} {HB : Heap} {s U : State} (hW : s.WarmedH U.vm) (h : KX g HB s) : KX g HB U :=
  ⟨fun x hx => va_OF.moved hW.alike (h.1 x hx), fun x hx => va_T.moved hW.alike (h.2.1 x hx), fun x hx => va_Z.moved hW.alike (h.2.2.1 x hx), fun x hx => vk_R.warm hW (h.2.2.2.1 x hx), fun x hx => va_O.moved hW.alike (h.2.2.2.2.1 x hx), va_T.moved hW.alike h.2.2.2.2.2.1, h.2.2.2.2.2.2⟩
theorem KX.same {g : GG} {HB : Heap} {s U : State} (hv : U.vm = s.vm) (h : KX g HB s) : KX g HB U := by
  have ha : s.vm.Alike U.vm := by rw [hv]; exact Vm.Alike.refl _
  exact ⟨fun x hx => va_OF.moved ha (h.1 x hx), fun x hx => va_T.moved ha (h.2.1 x hx), fun x hx => va_Z.moved ha (h.2.2.1 x hx), fun x hx => vk_R.same hv (h.2.2.2.1 x hx), fun x hx => va_O.moved ha (h.2.2.2.2.1 x hx), va_T.moved ha h.2.2.2.2.2.1, h.2.2.2.2.2.2⟩
theorem over_vm {t : FieldType} {A A' : Array Value} {u U : State} (h : u.vm = U.vm) (hb : (Cond.arrayOver t).before A u = true) : (Cond.arrayOver t).before A' U = true := by
  have e : (Cond.arrayOver t).before A (u.setVm U.vm) = (Cond.arrayOver t).before A' (U.setVm U.vm) := rfl
  have h1 : u.setVm U.vm = u := by rw [← h]; rfl
  have h2 : U.setVm U.vm = U := rfl
  rw [h1, h2] at e
  rw [← e]
  exact hb
theorem over_warm {t : FieldType} {s U : State} (hW : s.WarmedH U.vm) (h : va_Nw (.arrayOver t) s) : va_Nw (.arrayOver t) U := over_vm (rfl : (s.setVm U.vm).vm = U.vm) (by rw [Cond.arrayOver_setVmC hW.alike]; exact h)
theorem KN.warm {s U : State} (hW : s.WarmedH U.vm) (h : KN s) : KN U := by
  intro w hw
  have h1 := h w hw
  have h2 := (List.mem_filter.mp hw).2
  cases w <;> first | exact va_Nw.warmF hW h1 | exact va_Nw.warmM hW h1 | exact va_Nw.warmC hW h1 | exact over_warm hW h1 | cases h2
theorem KN.same {s U : State} (hv : U.vm = s.vm) (h : KN s) : KN U := by
  intro w hw
  have h1 := h w hw
  have h2 := (List.mem_filter.mp hw).2
  cases w <;> first | exact va_Nw.same rfl hv.symm h1 | exact over_vm hv.symm h1 | cases h2
theorem KA.warm {g : GG} {HB : Heap} {s U : State} (hW : s.WarmedH U.vm) (h : KA g HB s) : KA g HB U := ⟨va_K.moved hW.alike h.1, h.2.1.warm hW, h.2.2.warm hW⟩
theorem KA.same {g : GG} {HB : Heap} {s U : State} (hv : U.vm = s.vm) (h : KA g HB s) : KA g HB U := ⟨va_K.moved (by rw [hv]; exact Vm.Alike.refl _) h.1, h.2.1.same hv, h.2.2.same hv⟩
-- cells
def gQ (g : GG) (v : AV) : Option Nat := match isR v with
  | true => some (gR g v)
  | false => none
def cI (g : GG) (u : List (Nat × AV)) (j : Nat) : Int32 := match alk u j with
  | some v => gI g v
  | none => 0
def cJ (u : List (Nat × AV)) (j : Nat) : Int64 := match alk u j with
  | some v => gL v
  | none => 0
def cQ (g : GG) (u : List (Nat × AV)) (j : Nat) : Option Nat := match alk u j with
  | some v => gQ g v
  | none => none
/-- a content that isn't known: len symbols from b on -/
def blk (u : List (Nat × AV)) : Nat := match u with
  | [] => 0
  | q :: _ => q.1
def cB (g : GG) (b n j : Nat) : Int32 := match Nat.blt j n with
  | true => gS g (b + j)
  | false => 0
def cBL (g : GG) (b n j : Nat) : Int64 := match Nat.blt j n with
  | true => lN (g.2.1 (2000 + (b + j)))
  | false => 0
def cC (g : GG) (t n : Nat) (u : List (Nat × AV)) : vp_A := match t with
  | 0 => (n, .inl (cI g u))
  | 1 => (n, .inl (cI g u))
  | 2 => (n, .inl (cI g u))
  | 3 => (n, .inr (.inl (cJ u)))
  | 10 => (n, .inl (cB g (blk u) n))
  | 11 => (n, .inl (cB g (blk u) n))
  | 12 => (n, .inl (cB g (blk u) n))
  | 13 => (n, .inr (.inl (cBL g (blk u) n)))
  | _ => (n, .inr (.inr (.inr (.inr (cQ g u)))))
def cE (g : GG) (c : AE) : va_E := match c with
  | .inl x => .inl (g.2.2.2 x.1, cC g x.1 x.2.1 x.2.2)
  | .inr x => .inr (x.1, x.2.map (cV g))
def wsA (f : AE → va_E) (b : Nat) (h : List AE) : va_W := match h with
  | [] => []
  | c :: t => (b, f c) :: wsA f (b + 1) t
theorem wsA_get (f : AE → va_E) : ∀ (h : List AE) (b k : Nat), (wsA f b h)[k]? = (h[k]?).map (fun c => (b + k, f c))
  | [], _, _ => by simp [wsA]
  | c :: t, b, 0 => by simp [wsA]
  | c :: t, b, k + 1 => by
    rw [wsA, List.getElem?_cons_succ, List.getElem?_cons_succ, wsA_get f t (b + 1) k]
    cases t[k]? with
    | none => rfl
    | some c => simp only [Option.map_some]; rw [Nat.add_assoc, Nat.add_comm 1 k]
theorem wsA_len (f : AE → va_E) : ∀ (h : List AE) (b : Nat), (wsA f b h).length = h.length
  | [], _ => rfl
  | c :: t, b => by rw [wsA, List.length_cons, List.length_cons, wsA_len f t]
theorem wsA_set (f : AE → va_E) (h : List AE) (b k : Nat) (c : AE) : (wsA f b h).set k (b + k, f c) = wsA f b (h.set k c) := by
  apply List.ext_getElem?
  intro j
  rw [wsA_get, List.getElem?_set, List.getElem?_set, wsA_get, wsA_len]
  by_cases hj : k = j
  · subst hj
    by_cases hl : k < h.length
    · simp [hl]
    · simp [hl]
  · simp [hj]
theorem wsA_app (f : AE → va_E) (h : List AE) (b : Nat) (c : AE) : wsA f b (h ++ [c]) = wsA f b h ++ [(b + h.length, f c)] := by
  apply List.ext_getElem?
  intro j
  rw [wsA_get]
  by_cases hl : j < h.length
  · rw [List.getElem?_append_left hl, List.getElem?_append_left (by rw [wsA_len]; exact hl), wsA_get]
  · rw [List.getElem?_append_right (by omega), List.getElem?_append_right (by rw [wsA_len]; omega), wsA_len]
    by_cases hj : j = h.length
    · subst hj; simp
    · have h1 : [c][j - h.length]? = none := List.getElem?_eq_none (by simp; omega)
      have h2 : [(b + h.length, f c)][j - h.length]? = none := List.getElem?_eq_none (by simp; omega)
      rw [h1, h2]; rfl
/-- where the next cell comes is known as long as HB is of the ground's size (a throw makes a cell that nobody looks at) -/
def szG (g : GG) (HB : Heap) (h : List AE) (H : Heap) : Prop := g.1 + h.length ≤ H.size ∧ (HB.size = g.1 → H.size = g.1 + h.length)
/-- the heap is what was there, and the cells h behind it -/
def Rh (g : GG) (HB : Heap) (h : List AE) (H : Heap) (locs : List Loc) : Prop :=
  szG g HB h H ∧ (∀ q : Nat, q < g.1 → H[q]? = HB[q]?) ∧ va_P g.2.2.1 vwCl (wsA (cE g) g.1 h) H ∧ ∀ q ∈ locs, g.1 ≤ q.base
theorem Rh.get {g : GG} {HB H : Heap} {h : List AE} {locs : List Loc} (hR : Rh g HB h H locs) {k : Nat} {c : AE} (hk : h[k]? = some c) : va_at g.2.2.1 vwCl (g.1 + k, cE g c) H :=
  hR.2.2.1 k _ (by rw [wsA_get, hk]; rfl)
theorem Rh.ws {g : GG} {h : List AE} {k : Nat} {c : AE} (hk : h[k]? = some c) : (wsA (cE g) g.1 h)[k]? = some (g.1 + k, cE g c) := by rw [wsA_get, hk]; rfl
theorem Rh.D (g : GG) (h : List AE) : va_D (hiA g) (wsA (cE g) g.1 h) := by
  refine ⟨fun i j p q hi hj e => ?_, fun k q hk => ?_⟩
  · rw [wsA_get] at hi hj
    cases h1 : h[i]? with
    | none => rw [h1] at hi; cases hi
    | some a =>
      cases h2 : h[j]? with
      | none => rw [h2] at hj; cases hj
      | some b =>
        rw [h1] at hi; rw [h2] at hj
        cases hi; cases hj
        simp only at e
        omega
  · rw [wsA_get] at hk
    cases h1 : h[k]? with
    | none => rw [h1] at hk; cases hk
    | some a =>
      rw [h1] at hk
      cases hk
      exact Nat.le_add_right _ _
theorem Rh.out {g : GG} {HB H : Heap} {h : List AE} {locs : List Loc} (hR : Rh g HB h H locs) : ∀ a : Nat, a < HB.size → ¬ hiA g a → H[a]? = HB[a]? := fun a _ hn => hR.2.1 a (Nat.lt_of_not_le hn)
theorem Rh.set {g : GG} {HB H H1 : Heap} {h : List AE} {locs : List Loc} (hR : Rh g HB h H locs) {k i : Nat} {c0 c1 : AE} (hk : h[k]? = some c0) (he : va_at g.2.2.1 vwCl (g.1 + k, cE g c1) H1) (z : H1.size = H.size) (oq : ∀ q : Nat, q ≠ g.1 + k → H1[q]? = H[q]?) : Rh g HB (h.set k c1) H1 (locs ++ [⟨g.1 + k, i⟩]) := by
  refine ⟨by unfold szG; rw [z, List.length_set]; exact hR.1, fun q hq => by rw [oq q (by omega)]; exact hR.2.1 q hq, ?_, fun q hq => ?_⟩
  · rw [← wsA_set]
    exact hR.2.2.1.set (Rh.D g h) (Rh.ws hk) he oq
  · rcases List.mem_append.mp hq with h1 | h1
    · exact hR.2.2.2 q h1
    · rw [List.mem_singleton.mp h1]
      exact Nat.le_add_right _ _
theorem Rh.app {g : GG} {HB H H1 : Heap} {h : List AE} {locs : List Loc} (hR : Rh g HB h H locs) {c1 : AE} (he : va_at g.2.2.1 vwCl (g.1 + h.length, cE g c1) H1) (z : H1.size = H.size + 1) (oq : ∀ q : Nat, q < H.size → H1[q]? = H[q]?) : Rh g HB (h ++ [c1]) H1 locs := by
  have hz := hR.1.1
  refine ⟨⟨by rw [z, List.length_append, List.length_singleton]; omega, fun hx => by rw [z, List.length_append, List.length_singleton, hR.1.2 hx]; omega⟩, fun q hq => by rw [oq q (by omega)]; exact hR.2.1 q hq, ?_, hR.2.2.2⟩
  rw [wsA_app]
  refine (hR.2.2.1.kept (fun k q hq => oq _ ((hR.2.2.1 k q hq).lt))).app (fun k q hq => ?_)
  have hk : k < 1 := (List.getElem?_eq_some_iff.mp hq).1
  rw [show k = 0 by omega] at hq
  cases hq
  exact he
-- configurations and steps
/-- pc, locals, stack, cells, cells made, slots made, what is foretold of branches on unknown numbers, what was asked and told -/
abbrev Cfg : Type := Nat × LL × List AV × List AE × Cnt × Cnt × List Bool × CSL
abbrev CallF : Type := Nat → Nat → Nat → List AV → List AE → List Bool → CSL → Option (Option AV × List AE × Cnt × Cnt × List Bool × CSL)
abbrev FF : Type := CallF → Nat → Nat → Cfg → Option Cfg
def Cx (g : GG) (HB : Heap) (p : Program) (s : State) (m : MethodId) (args : Array Value) (meth : Method) (c : Code) (cc : ByteArray) (nL : Nat) (own nm : String) : Prop :=
  CallFix p m c cc nL s args wsG own ∧ KA g HB s ∧ meth.name = nm
/-- what the machine does from pc is what f computes -/
def Snd (g : GG) (HB : Heap) (l : Launch) (call : CallF) (cc : ByteArray) (nL : Nat) (own nm : String) (pc : Nat) (f : FF) : Prop :=
  ∀ (fr lo : Nat) (L : LL) (st : List AV) (h : List AE) (k z : Cnt) (o : List Bool) (cs : CSL) (pc' : Nat) (L' : LL) (st' : List AV) (h' : List AE) (k' z' : Cnt) (o' : List Bool) (cs' : CSL),
    f call fr lo (pc, L, st, h, k, z, o, cs) = some (pc', L', st', h', k', z', o', cs') →
    (cs <:+ cs' ∧ cv g k ≤ cv g k' ∧ cv g z ≤ cv g z') ∧
    (okc g cs' → ∀ (p : Program) (e : Env) (R : Room) (s : State) (m : MethodId) (args : Array Value) (below : List Frame) (meth : Method) (c : Code) (Q : State → Prop) (H : Heap) (locs : List Loc) (ls : Array Slot),
      Cx g HB p s m args meth c cc nL own nm → fr ≤ R.frames → lo ≤ R.locals → cv g k' ≤ R.cells → cv g z' ≤ R.slots → Rh g HB h H locs → lv_has ls nL (cL g L) →
      (∀ (H' : Heap) (locs' : List Loc) (ls' : Array Slot), Rh g HB h' H' locs' → lv_has ls' nL (cL g L') → W p l e R s m args below meth c H' locs' (cv g k') (cv g z') Q (F0 m pc' ls' (st'.map (cV g)))) →
      W p l e R s m args below meth c H locs (cv g k) (cv g z) Q (F0 m pc ls (st.map (cV g))))
def lf (q : PF) : FF := fun _ _ _ c => match c with
  | (_, L, st, h, k, z, o, cs) => match q L st with
    | none => none
    | some (pc', L', st') => some (pc', L', st', h, k, z, o, cs)
theorem lf_ok {g : GG} {HB : Heap} {l : Launch} {call : CallF} {cc : ByteArray} {nL : Nat} {own nm : String} {pc : Nat} {q : PF} (hq : PSnd g cc nL pc q) : Snd g HB l call cc nL own nm pc (lf q) := by
  intro fr lo L st h k z o cs pc' L' st' h' k' z' o' cs' hf
  simp only [lf] at hf
  cases hL : q L st with
  | none => rw [hL] at hf; cases hf
  | some r =>
    obtain ⟨p1, L1, s1⟩ := r
    rw [hL] at hf
    cases hf
    refine ⟨⟨List.suffix_refl _, Nat.le_refl _, Nat.le_refl _⟩, fun _ p e R s m args below meth c Q H locs ls hC _ _ _ _ hR hl kk => ?_⟩
    exact hq L st _ _ _ hL p l e R s m args below meth c H locs (cv g k) (cv g z) Q ls hC.1.1 hC.1.2.1 hl (fun ls' hl' => kk H locs ls' hR hl')
