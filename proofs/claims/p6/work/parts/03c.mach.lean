/-! The heap in small stands for the machine's; a method's run is shown step by step. -/
def tyA (t : Nat) : FieldType := match t with
  | 0 => .int
  | 1 => .byte
  | 2 => .boolean
  | 3 => .long
  | _ => .object "java/lang/Object"
theorem tysG_at (g : GG) {t : Nat} (ht : t < 5) : (tysG g)[t]? = some (g.2.2.2 t, tyA t) := by
  rcases (show t = 0 ∨ t = 1 ∨ t = 2 ∨ t = 3 ∨ t = 4 by omega) with rfl | rfl | rfl | rfl | rfl <;> rfl
def rq (g : GG) (a : Nat) : Option Nat := match a with
  | 0 => none
  | q + 1 => some (ad g (q + 1))
/-- a field's value, by its type -/
def fv (g : GG) (ty : FieldType) (x : Int) : Value := match ty with
  | .long => .long (Int64.ofInt x)
  | .object _ => rv g x.toNat
  | .array _ => rv g x.toNat
  | _ => .int (Int32.ofInt x)
def clT (c : Nat) : u_T := match vwCl[c]? with
  | some q => q.2.1
  | none => fun _ => ("", "", "", false)
def clN (c : Nat) : Nat := match vwCl[c]? with
  | some q => q.2.2
  | none => 0
def cC (g : GG) (k n : Nat) (f : Nat → Int) : vp_A := match k with
  | 0 => (n, .inl (fun j => Int32.ofInt (f j)))
  | 1 => (n, .inl (fun j => Int32.ofInt (f j)))
  | 2 => (n, .inl (fun j => Int32.ofInt (f j)))
  | 3 => (n, .inr (.inl (fun j => Int64.ofInt (f j))))
  | _ => (n, .inr (.inr (.inr (.inr (fun j => rq g (f j).toNat)))))
/-- what stands at a name, as the kit says it; an array's kind is its last digit, what stands ahead of that is its role -/
def ce (g : GG) (t : Ty) (f : Nat → Int) : va_E := match t with
  | .inl q => .inl (g.2.2.2 (q.1 % 10), cC g (q.1 % 10) q.2 f)
  | .inr c => .inr (c, (List.range (clN c)).map (fun j => fv g (tyOf (clT c) j) (f j)))
/-- the machine's heap is what was there, and behind it the cells of h, one behind another by their names -/
def Rep (g : GG) (HB : Heap) (h : Hp) (H : Heap) (locs : List Loc) : Prop :=
  (H.size = g.1 + h.1 ∧ HB.size = g.1 + 1 ∧ 0 < h.1 ∧ h.1 ≤ 1000000) ∧ (∀ q : Nat, q < g.1 + 1 → H[q]? = HB[q]?) ∧
  (∀ (a : Nat) (t : Ty), h.2.1 a = some t → 0 < a ∧ a < h.1 ∧ va_at g.2.2.1 vwCl (g.1 + a, ce g t (h.2.2 a)) H) ∧ (∀ a : Nat, h.1 ≤ a → ∀ j, h.2.2 a j = 0) ∧ ∀ q ∈ locs, hiA g q.base
theorem Rep.lt {g : GG} {HB H : Heap} {h : Hp} {locs : List Loc} (hR : Rep g HB h H locs) {a : Nat} {t : Ty} (ht : h.2.1 a = some t) : 0 < a ∧ a < 1000000 := by
  have h1 := hR.2.2.1 a t ht
  have h2 := hR.1.2.2.2
  omega
theorem Rep.rv {g : GG} {HB H : Heap} {h : Hp} {locs : List Loc} (hR : Rep g HB h H locs) {a : Nat} {t : Ty} (ht : h.2.1 a = some t) : rv g a = .ref (g.1 + a) := by
  have h1 := hR.lt ht
  rw [rv_pos g h1.1, ad_in g h1.2]
theorem Rep.nolocs {g : GG} {HB H : Heap} {h : Hp} {locs : List Loc} (hR : Rep g HB h H locs) : Rep g HB h H [] := ⟨hR.1, hR.2.1, hR.2.2.1, hR.2.2.2.1, fun q hq => by cases hq⟩
/-- one number more at a place -/
def up (v : Nat → Nat → Int) (a j : Nat) (x : Int) : Nat → Nat → Int := fun b i => match Nat.beq b a && Nat.beq i j with
  | true => x
  | false => v b i
def wr (h : Hp) (a j : Nat) (x : Int) : Hp := (h.1, h.2.1, up h.2.2 a j x)
theorem up_ne {v : Nat → Nat → Int} {a j b i : Nat} {x : Int} (h : b ≠ a) : up v a j x b i = v b i := by
  unfold up
  cases hb : Nat.beq b a with
  | true => exact absurd (Nat.eq_of_beq_eq_true hb) h
  | false => rfl
theorem up_ne2 {v : Nat → Nat → Int} {a j b i : Nat} {x : Int} (h : i ≠ j) : up v a j x b i = v b i := by
  unfold up
  cases hb : Nat.beq i j with
  | true => exact absurd (Nat.eq_of_beq_eq_true hb) h
  | false => cases Nat.beq b a <;> rfl
theorem up_eq {v : Nat → Nat → Int} {a j : Nat} {x : Int} : up v a j x a j = x := by
  unfold up
  rw [Nat.beq_refl, Nat.beq_refl]
  rfl
theorem up_if {v : Nat → Nat → Int} {a j i : Nat} {x : Int} : up v a j x a i = if i = j then x else v a i := by
  by_cases h : i = j
  · subst h; rw [up_eq, if_pos rfl]
  · rw [up_ne2 h, if_neg h]
/-- a cell is written -/
theorem Rep.set {g : GG} {HB H H1 : Heap} {h : Hp} {locs : List Loc} (hR : Rep g HB h H locs) {a j i : Nat} {t : Ty} {x : Int} (ht : h.2.1 a = some t) (he : va_at g.2.2.1 vwCl (g.1 + a, ce g t ((wr h a j x).2.2 a)) H1) (z : H1.size = H.size) (oq : ∀ q : Nat, q ≠ g.1 + a → H1[q]? = H[q]?) : Rep g HB (wr h a j x) H1 (locs ++ [⟨g.1 + a, i⟩]) := by
  have h1 := hR.2.2.1 a t ht
  refine ⟨by rw [z]; exact hR.1, fun q hq => by rw [oq q (by omega)]; exact hR.2.1 q hq, fun b tb hb => ?_, fun b hb k => ?_, fun q hq => ?_⟩
  · have h2 := hR.2.2.1 b tb hb
    refine ⟨h2.1, h2.2.1, ?_⟩
    by_cases hab : b = a
    · subst hab
      have e : t = tb := Option.some.inj (ht.symm.trans hb)
      subst e
      exact he
    · have e : (wr h a j x).2.2 b = h.2.2 b := funext fun i => up_ne hab
      rw [e]
      exact h2.2.2.kept (oq _ (by show g.1 + b ≠ g.1 + a; omega))
  · have hb : h.1 ≤ b := hb
    show up h.2.2 a j x b k = 0
    rw [up_ne (by omega)]
    exact hR.2.2.2.1 b hb k
  · rcases List.mem_append.mp hq with h2 | h2
    · exact hR.2.2.2.2 q h2
    · rw [List.mem_singleton.mp h2]
      show g.1 + 1 ≤ g.1 + a
      omega
/-- a cell is made -/
def al (h : Hp) (t : Ty) : Hp := (h.1 + 1, (fun b => match Nat.beq b h.1 with | true => some t | false => h.2.1 b), h.2.2)
theorem Rep.app {g : GG} {HB H H1 : Heap} {h : Hp} {locs : List Loc} (hR : Rep g HB h H locs) {t : Ty} (hlt : h.1 < 1000000) (he : va_at g.2.2.1 vwCl (g.1 + h.1, ce g t (fun _ => 0)) H1) (z : H1.size = H.size + 1) (oq : ∀ q : Nat, q < H.size → H1[q]? = H[q]?) : Rep g HB (al h t) H1 locs := by
  have hs := hR.1
  refine ⟨⟨by rw [z]; show _ = g.1 + (h.1 + 1); omega, hs.2.1, Nat.succ_pos _, hlt⟩, fun q hq => by rw [oq q (by omega)]; exact hR.2.1 q hq, fun b tb hb => ?_, fun b hb k => ?_, hR.2.2.2.2⟩
  · have hb : (match Nat.beq b h.1 with | true => some t | false => h.2.1 b) = some tb := hb
    cases hq : Nat.beq b h.1 with
    | true =>
      have e := Nat.eq_of_beq_eq_true hq
      rw [hq] at hb
      cases hb
      subst e
      have e2 : (al h t).2.2 h.1 = fun _ => 0 := funext fun k => hR.2.2.2.1 h.1 (Nat.le_refl _) k
      refine ⟨hs.2.2.1, Nat.lt_succ_self _, ?_⟩
      rw [e2]
      exact he
    | false =>
      rw [hq] at hb
      have h2 := hR.2.2.1 b tb hb
      exact ⟨h2.1, Nat.lt_succ_of_lt h2.2.1, h2.2.2.kept (oq _ h2.2.2.lt)⟩
  · have hb : h.1 + 1 ≤ b := hb
    exact hR.2.2.2.1 b (by omega) k
theorem al_new (h : Hp) (t : Ty) : (al h t).2.1 h.1 = some t := by
  show (match Nat.beq h.1 h.1 with | true => some t | false => h.2.1 h.1) = some t
  rw [Nat.beq_refl]
theorem al_old {h : Hp} {t : Ty} {b : Nat} (hb : b ≠ h.1) : (al h t).2.1 b = h.2.1 b := by
  show (match Nat.beq b h.1 with | true => some t | false => h.2.1 b) = h.2.1 b
  cases hq : Nat.beq b h.1 with
  | true => exact absurd (Nat.eq_of_beq_eq_true hq) hb
  | false => rfl
-- locals
abbrev LL : Type := List (Nat × V)
def dL (g : GG) (L : LL) : List (Nat × Value) := L.map (fun q => (q.1, dv g q.2))
def alk {α : Type} (L : List (Nat × α)) (i : Nat) : Option α := match L with
  | [] => none
  | q :: t => match Nat.beq q.1 i with
    | true => some q.2
    | false => alk t i
theorem alk_mem {α : Type} {L : List (Nat × α)} {i : Nat} {v : α} (h : alk L i = some v) : (i, v) ∈ L := by
  induction L with
  | nil => cases h
  | cons q t ih =>
    unfold alk at h
    cases hb : Nat.beq q.1 i with
    | true =>
      rw [hb] at h
      have h1 : q.1 = i := Nat.eq_of_beq_eq_true hb
      have h2 : q.2 = v := Option.some.inj h
      subst h1; subst h2
      exact List.mem_cons_self
    | false =>
      rw [hb] at h
      exact List.mem_cons_of_mem _ (ih h)
theorem alk_at {g : GG} {L : LL} {i nL : Nat} {v : V} {ls : Array Slot} (hl : lv_has ls nL (dL g L)) (h : alk L i = some v) : ls[i]? = some (.val (dv g v)) :=
  hl.2.2 (i, dv g v) (List.mem_map.mpr ⟨(i, v), alk_mem h, rfl⟩)
theorem beqN (a b : Nat) : (a == b) = Nat.beq a b := by
  rw [Bool.eq_iff_iff]
  simp [Nat.beq_eq]
/-- a local of one word is set, in its place -/
def keep1 (i : Nat) (q : Nat × V) : Bool := match Nat.beq q.1 i with
  | true => false
  | false => match Nat.beq (q.1 + 1) i && Nat.beq (ct q.2) 2 with
    | true => false
    | false => true
def ups (i : Nat) (v : V) (L : LL) : LL := match L with
  | [] => [(i, v)]
  | q :: t => match Nat.beq q.1 i with
    | true => (i, v) :: t.filter (keep1 i)
    | false => match Nat.beq (q.1 + 1) i && Nat.beq (ct q.2) 2 with
      | true => ups i v t
      | false => q :: ups i v t
theorem ups_mem {i : Nat} {v : V} : ∀ {L : LL} {q : Nat × V}, q ∈ ups i v L → q = (i, v) ∨ (q ∈ L ∧ keep1 i q = true)
  | [], q, h => Or.inl (List.mem_singleton.mp h)
  | x :: t, q, h => by
    unfold ups at h
    cases hb : Nat.beq x.1 i with
    | true =>
      rw [hb] at h
      rcases List.mem_cons.mp h with h | h
      · exact Or.inl h
      · exact Or.inr ⟨List.mem_cons_of_mem _ (List.mem_filter.mp h).1, (List.mem_filter.mp h).2⟩
    | false =>
      rw [hb] at h
      cases hc : Nat.beq (x.1 + 1) i && Nat.beq (ct x.2) 2 with
      | true =>
        rw [hc] at h
        rcases ups_mem h with h | h
        · exact Or.inl h
        · exact Or.inr ⟨List.mem_cons_of_mem _ h.1, h.2⟩
      | false =>
        rw [hc] at h
        rcases List.mem_cons.mp h with rfl | h
        · exact Or.inr ⟨List.mem_cons_self, by unfold keep1; rw [hb, hc]⟩
        · rcases ups_mem h with h | h
          · exact Or.inl h
          · exact Or.inr ⟨List.mem_cons_of_mem _ h.1, h.2⟩
theorem ups_sub {g : GG} {i : Nat} {v : V} {L : LL} : ∀ q ∈ dL g (ups i v L), q ∈ (i, dv g v) :: (dL g L).filter (fun q => !(q.1 == i) && !(q.1 + 1 == i && q.2.category == 2)) := by
  intro q hq
  obtain ⟨x, hx, rfl⟩ := List.mem_map.mp hq
  rcases ups_mem hx with h | ⟨h1, h2⟩
  · rw [h]; exact List.mem_cons_self
  · refine List.mem_cons_of_mem _ (List.mem_filter.mpr ⟨List.mem_map.mpr ⟨x, h1, rfl⟩, ?_⟩)
    unfold keep1 at h2
    cases hb : Nat.beq x.1 i with
    | true => rw [hb] at h2; cases h2
    | false =>
      rw [hb] at h2
      cases hc : Nat.beq (x.1 + 1) i && Nat.beq (ct x.2) 2 with
      | true => rw [hc] at h2; cases h2
      | false =>
        have e1 : (x.1 == i) = false := by rw [beqN]; exact hb
        have e2 : (x.1 + 1 == i && (dv g x.2).category == 2) = false := by rw [dv_cat, beqN, beqN]; exact hc
        simp only [e1, e2]
        rfl
def upl (i : Nat) (v : V) (L : LL) : LL := (i, v) :: L.filter (fun q => !(Nat.beq q.1 i) && (!(Nat.beq q.1 (i + 1)) && !(Nat.beq (q.1 + 1) i && Nat.beq (ct q.2) 2)))
theorem upl_eq (g : GG) (i : Nat) (v : V) (L : LL) : (i, dv g v) :: (dL g L).filter (fun q => !(q.1 == i) && (!(q.1 == i + 1) && !(q.1 + 1 == i && q.2.category == 2))) = dL g (upl i v L) := by
  unfold dL upl
  rw [List.filter_map, List.map_cons]
  congr 2
  apply List.filter_congr
  intro q _
  simp only [Function.comp, dv_cat, beqN]
theorem lv_less {ls : Array Slot} {nL : Nat} {l l' : List (Nat × Value)} (h : lv_has ls nL l) (hs : ∀ q ∈ l', q ∈ l) : lv_has ls nL l' := ⟨h.1, h.2.1, fun q hq => h.2.2 q (hs q hq)⟩
-- configurations
/-- pc, locals, stack, heap, cells made, slots made -/
abbrev Cfg : Type := Nat × LL × List V × Hp × Nat × Nat
/-- the method that is walked: code, locals, class, name, answer's type, frames and locals' room -/
abbrev ME : Type := ByteArray × Nat × String × String × Option FieldType × Nat × Nat
def Cx (g : GG) (HB : Heap) (p : Program) (s : State) (m : MethodId) (args : Array Value) (meth : Method) (c : Code) (E : ME) : Prop :=
  CallFix p m c E.1 E.2.1 s args wsG E.2.2.1 ∧ KA g HB s ∧ meth.name = E.2.2.2.1 ∧ meth.sig.returnType = E.2.2.2.2.1 ∧ meth.locks = false
/-- from x the machine comes to y -/
def Sx_ (l : Launch) (E : ME) (x y : Cfg) : Prop :=
  (x.2.2.2.2.1 ≤ y.2.2.2.2.1 ∧ x.2.2.2.2.2 ≤ y.2.2.2.2.2) ∧
  ∀ (g : GG) (HB : Heap) (p : Program) (e : Env) (R : Room) (s : State) (m : MethodId) (args : Array Value) (below : List Frame) (meth : Method) (c : Code) (Q : State → Prop) (H : Heap) (locs : List Loc) (ls : Array Slot),
    Cx g HB p s m args meth c E → E.2.2.2.2.2.1 ≤ R.frames → E.2.2.2.2.2.2 ≤ R.locals → y.2.2.2.2.1 ≤ R.cells → y.2.2.2.2.2 ≤ R.slots → Rep g HB x.2.2.2.1 H locs → lv_has ls E.2.1 (dL g x.2.1) →
      (∀ (H' : Heap) (locs' : List Loc) (ls' : Array Slot), Rep g HB y.2.2.2.1 H' locs' → lv_has ls' E.2.1 (dL g y.2.1) → W p l e R s m args below meth c H' locs' y.2.2.2.2.1 y.2.2.2.2.2 Q (F0 m y.1 ls' (y.2.2.1.map (dv g)))) →
      W p l e R s m args below meth c H locs x.2.2.2.2.1 x.2.2.2.2.2 Q (F0 m x.1 ls (x.2.2.1.map (dv g)))
/-- what a call leaves: its answer, the heap in small -/
def QR (g : GG) (HB : Heap) (r : Option V) (h' : Hp) : Array Value → State → Outcome → State → Prop := fun _ _ oc t => oc = .returned (r.map (dv g)) ∧ Rep g HB h' t.heap []
def PP (g : GG) (HB : Heap) (av : List V) (h : Hp) : Array Value → State → Prop := va_Pc (av.map (dv g)) (fun U => Rep g HB h U.heap [] ∧ KA g HB U)
/-- from x the method comes to its end, with answer r, heap h', k cells and z slots -/
def Ends (l : Launch) (E : ME) (x : Cfg) (r : Option V) (h' : Hp) (k z : Nat) : Prop :=
  (x.2.2.2.2.1 ≤ k ∧ x.2.2.2.2.2 ≤ z) ∧
  ∀ (g : GG) (HB : Heap) (p : Program) (e : Env) (R : Room) (s : State) (m : MethodId) (args : Array Value) (below : List Frame) (meth : Method) (c : Code) (H : Heap) (locs : List Loc) (ls : Array Slot),
    Cx g HB p s m args meth c E → E.2.2.2.2.2.1 ≤ R.frames → E.2.2.2.2.2.2 ≤ R.locals → k ≤ R.cells → z ≤ R.slots → Rep g HB x.2.2.2.1 H locs → lv_has ls E.2.1 (dL g x.2.1) →
      W p l e R s m args below meth c H locs x.2.2.2.2.1 x.2.2.2.2.2 (MQ below (QR g HB r h') args s k z (hiA g)) (F0 m x.1 ls (x.2.2.1.map (dv g)))
/-- from x the method comes to an end with F -/
def To (l : Launch) (E : ME) (x : Cfg) (F : Option V → Hp → Nat → Nat → Prop) : Prop := ∃ (r : Option V) (h' : Hp) (k z : Nat), F r h' k z ∧ Ends l E x r h' k z
theorem to_of {l : Launch} {E : ME} {x y : Cfg} {F : Option V → Hp → Nat → Nat → Prop} (hs : Sx_ l E x y) (k : To l E y F) : To l E x F := by
  obtain ⟨r, h', kk, z, hF, hE⟩ := k
  refine ⟨r, h', kk, z, hF, ⟨Nat.le_trans hs.1.1 hE.1.1, Nat.le_trans hs.1.2 hE.1.2⟩, fun g HB p e R s m args below meth c H locs ls hC hf hlo hk hz hR hl => ?_⟩
  exact hs.2 g HB p e R s m args below meth c _ H locs ls hC hf hlo (Nat.le_trans hE.1.1 hk) (Nat.le_trans hE.1.2 hz) hR hl fun H' locs' ls' hR' hl' => hE.2 g HB p e R s m args below meth c H' locs' ls' hC hf hlo hk hz hR' hl'
theorem To.imp {l : Launch} {E : ME} {x : Cfg} {F F' : Option V → Hp → Nat → Nat → Prop} (k : To l E x F) (h : ∀ r h' k z, F r h' k z → F' r h' k z) : To l E x F' := by
  obtain ⟨r, h', kk, z, hF, hE⟩ := k
  exact ⟨r, h', kk, z, h r h' kk z hF, hE⟩
/-- a method: its name, code, locals, answer's type -/
abbrev MD : Type := MethodName × ByteArray × Nat × Option FieldType
def mdW (d : MD) : List Cond := .code d.1 d.2.1 d.2.2.1 d.2.2.2 :: wsG
/-- what a call of d does: frames fr, locals' room lo -/
def Ev (l : Launch) (d : MD) (fr lo : Nat) (av : List V) (h : Hp) (r : Option V) (h' : Hp) (mc ms : Nat) : Prop :=
  ∀ (g : GG) (HB : Heap), Met l d.1 (mdW d) { frames := fr, cells := mc, slots := ms, locals := lo } (PP g HB av h) (QR g HB r h') mc ms (hiA g)
/-- a CONTRACT: the call comes back, with F -/
def Ct (l : Launch) (d : MD) (fr lo : Nat) (av : List V) (h : Hp) (F : Option V → Hp → Nat → Nat → Prop) : Prop := ∃ (r : Option V) (h' : Hp) (mc ms : Nat), F r h' mc ms ∧ Ev l d fr lo av h r h' mc ms
def argsA (i : Nat) (av : List V) : LL := match av with
  | [] => []
  | v :: t => (i, v) :: argsA (match Nat.beq (ct v) 2 with | true => i + 2 | false => i + 1) t
def slen (av : List V) : Nat := match av with
  | [] => 0
  | v :: t => ct v + slen t
theorem argsA_eq (g : GG) : ∀ (av : List V) (i : Nat), dL g (argsA i av) = lv_args i (av.map (dv g))
  | [], _ => rfl
  | v :: t, i => by
    rw [argsA, List.map_cons, lv_args, dv_cat]
    show (i, dv g v) :: dL g _ = _
    rw [argsA_eq g t]
    by_cases h : ct v = 2
    · rw [if_pos h, h]
    · rw [if_neg h]
      cases hb : Nat.beq (ct v) 2 with
      | true => exact absurd (Nat.eq_of_beq_eq_true hb) h
      | false => rfl
theorem ct_12 (v : V) : ct v = 1 ∨ ct v = 2 := by
  rcases v with i | i | a
  · exact Or.inl rfl
  · exact Or.inr rfl
  · exact Or.inl rfl
theorem slen_eq (g : GG) : ∀ (av : List V), (lg_sl (av.map (dv g))).length = slen av
  | [] => rfl
  | v :: t => by
    have ih := slen_eq g t
    unfold lg_sl at ih ⊢
    rw [List.map_cons, List.flatMap_cons, List.length_append, ih, slen, dv_cat]
    rcases ct_12 v with h | h
    · rw [h]; rfl
    · rw [h]; rfl
theorem slen_sum (g : GG) : ∀ (r : List V), ((r.map (dv g)).map fun v => v.category).sum = slen r
  | [] => rfl
  | v :: t => by
    have ih := slen_sum g t
    rw [List.map_cons, List.map_cons, List.sum_cons, ih, dv_cat, slen]
theorem room8 (g : GG) {m : MethodId} {pc : Nat} {ls : Array Slot} {st : List Value} {r : List V} (h : slen r ≤ 8) : 2 * (F0 m pc ls st).monitorRoom + ((r.map (dv g)).map fun v => v.category).sum ≤ 8 := by
  rw [slen_sum]
  show 2 * 0 + slen r ≤ 8
  omega
/-- a run from the entry is a contract -/
theorem ct_of {l : Launch} {y : MethodName} {cc : ByteArray} {nL fr lo : Nat} {ret : Option FieldType} {av : List V} {h : Hp} {F : Option V → Hp → Nat → Nat → Prop} (hp : plainName y.cls = true) (hl0 : slen av ≤ nL)
    (k : To l (cc, nL, y.cls, y.name, ret, fr, lo) (0, argsA 0 av, [], h, 0, 0) F) : Ct l (y, cc, nL, ret) fr lo av h F := by
  obtain ⟨r, h', mc, ms, hF, hE⟩ := k
  refine ⟨r, h', mc, ms, hF, fun g HB => ?_⟩
  refine Met.ofW (cc := cc) (maxL := nL) (ret := ret) hp rfl ?_
  intro p e s m args below meth c s₁ B hml hv
  obtain ⟨rfl, hR0, hKA⟩ := hv
  have hts0 := atoms_spec (ws := mdW (y, cc, nL, ret)) B.pre
  have hC : Cx g HB p s m (av.map (dv g)).toArray meth c (cc, nL, y.cls, y.name, ret, fr, lo) :=
    ⟨⟨B.exec, B.bytes, hml, findClass_of_methodNamed B.named, fun w hw => hts0 w (List.mem_cons_of_mem _ hw)⟩, hKA, (name_of_methodNamed B.named B.method).1, B.returns, B.notSynchronized⟩
  have hle : (lg_sl (av.map (dv g))).length ≤ nL := by rw [slen_eq]; exact hl0
  have hl := lv_entry (av.map (dv g)) hle
  rw [lg_entry_eq]
  generalize (lg_sl (av.map (dv g)) ++ List.replicate (nL - (lg_sl (av.map (dv g))).length) Slot.unset).toArray = ls at hl ⊢
  rw [← argsA_eq] at hl
  exact hE.2 g HB p e _ s m _ below meth c s.heap [] ls hC (Nat.le_refl fr) (Nat.le_refl lo) (Nat.le_refl mc) (Nat.le_refl ms) hR0 hl
