/-! Values in small, the heap in small, what is known of the world outside. -/
/-- an int, a long, a reference: 0 is null, below 1000000 a name of a cell made since the start, from 1000000 on a cell that was there before -/
abbrev V : Type := Int ⊕ Int ⊕ Nat
/-- an array (kind, length), or an object (its class) -/
abbrev Ty : Type := (Nat × Nat) ⊕ Nat
/-- the next name; what stands at a name; what a name holds at a place -/
abbrev Hp : Type := Nat × (Nat → Option Ty) × (Nat → Nat → Int)
/-- the ground: the first new address less 1, the outside cells, the classes' numbers, the array classes -/
abbrev GG : Type := Nat × (Nat → Nat) × va_G × (Nat → ClassId)
def ad (g : GG) (a : Nat) : Nat := match Nat.blt a 1000000 with
  | true => g.1 + a
  | false => g.2.1 (a - 1000000)
def rv (g : GG) (a : Nat) : Value := match a with
  | 0 => .null
  | q + 1 => .ref (ad g (q + 1))
def dv (g : GG) (v : V) : Value := match v with
  | .inl i => .int (Int32.ofInt i)
  | .inr (.inl i) => .long (Int64.ofInt i)
  | .inr (.inr a) => rv g a
def ct (v : V) : Nat := match v with
  | .inl _ => 1
  | .inr (.inl _) => 2
  | .inr (.inr _) => 1
theorem dv_cat (g : GG) (v : V) : (dv g v).category = ct v := by
  rcases v with i | i | a
  · rfl
  · rfl
  · cases a <;> rfl
theorem rv_pos (g : GG) {a : Nat} (h : 0 < a) : rv g a = .ref (ad g a) := by
  cases a with
  | zero => omega
  | succ q => rfl
theorem ad_in (g : GG) {a : Nat} (h : a < 1000000) : ad g a = g.1 + a := by
  unfold ad
  rw [Nat.blt_eq.mpr h]
def wsG : List Cond := lw_tbl.filter goodWord
def isNest (w : Cond) : Bool := match w with
  | .fieldLinkNest _ _ _ _ _ _ => true
  | .methodLinkNest _ _ _ _ => true
  | .castable _ _ => true
  | .arrayOver t => match t with
    | .object _ => true
    | _ => false
  | _ => false
def nwL : List Cond := lw_tbl.filter isNest
def KN (U : State) : Prop := ∀ w ∈ nwL, va_Nw w U
def hiA (g : GG) : Nat → Prop := fun q => g.1 + 1 ≤ q
/-- what was there before: fields of outside objects, outside arrays, statics, texts by their places, outside objects' classes, the script (its cell 90, its length 91, its ints from 2000 on) -/
def KX (g : GG) (HB : Heap) (U : State) : Prop :=
  (∀ x ∈ xOF, va_OF x.2.1 x.2.2.1 x.2.2.2.1 (dv g x.2.2.2.2) (g.2.1 x.1) (hiA g) U HB) ∧
  (∀ x ∈ xT, va_T x.2.1 (g.2.1 x.1) x.2.2.1 (fun j => .int (Int32.ofInt (x.2.2.2.getD j 0))) (hiA g) U HB) ∧
  (∀ x ∈ xZ, va_Z x.1 x.2.1 x.2.2.1 (dv g x.2.2.2) (hiA g) U HB) ∧
  (∀ x ∈ xR, vk_R x.1 x.2.1 x.2.2.1 (g.2.1 x.2.2.2) U) ∧
  (∀ x ∈ xO, va_O x.2 (g.2.1 x.1) (hiA g) U HB) ∧
  va_T .int (g.2.1 90) (g.2.1 91) (fun j => .int (Int32.ofNat (g.2.1 (2000 + j)))) (hiA g) U HB ∧ g.2.1 91 ≤ 400 ∧
  (∃ v : Value, (v = .null ∨ v = .ref (g.2.1 50)) ∧ va_Z "jdk/internal/util/Preconditions" "SIOOBE_FORMATTER" "Ljava/util/function/BiFunction;" v (hiA g) U HB) ∧ va_Mi "[Ljava/lang/Object;" (g.2.1 51) U ∧ va_Dc U
def tysG (g : GG) : List (ClassId × FieldType) := [(g.2.2.2 0, .int), (g.2.2.2 1, .byte), (g.2.2.2 2, .boolean), (g.2.2.2 3, .long), (g.2.2.2 4, .object "java/lang/Object")]
def KA (g : GG) (HB : Heap) (U : State) : Prop := va_K g.2.2.1 vwCl (tysG g) U ∧ KN U ∧ KX g HB U
theorem KX.warm {g : GG} {HB : Heap} {s U : State} (hW : s.WarmedH U.vm) (h : KX g HB s) : KX g HB U :=
  ⟨fun x hx => va_OF.moved hW.alike (h.1 x hx), fun x hx => va_T.moved hW.alike (h.2.1 x hx), fun x hx => va_Z.moved hW.alike (h.2.2.1 x hx), fun x hx => vk_R.warm hW (h.2.2.2.1 x hx), fun x hx => va_O.moved hW.alike (h.2.2.2.2.1 x hx), va_T.moved hW.alike h.2.2.2.2.2.1, h.2.2.2.2.2.2.1, (by
    obtain ⟨v, h1, h2⟩ := h.2.2.2.2.2.2.2.1
    exact ⟨v, h1, va_Z.moved hW.alike h2⟩), va_Mi.moved hW.alike h.2.2.2.2.2.2.2.2.1, va_Dc.moved hW.alike h.2.2.2.2.2.2.2.2.2⟩
theorem KX.same {g : GG} {HB : Heap} {s U : State} (hv : U.vm = s.vm) (h : KX g HB s) : KX g HB U := by
  have ha : s.vm.Alike U.vm := by rw [hv]; exact Vm.Alike.refl _
  exact ⟨fun x hx => va_OF.moved ha (h.1 x hx), fun x hx => va_T.moved ha (h.2.1 x hx), fun x hx => va_Z.moved ha (h.2.2.1 x hx), fun x hx => vk_R.same hv (h.2.2.2.1 x hx), fun x hx => va_O.moved ha (h.2.2.2.2.1 x hx), va_T.moved ha h.2.2.2.2.2.1, h.2.2.2.2.2.2.1, (by
    obtain ⟨v, h1, h2⟩ := h.2.2.2.2.2.2.2.1
    exact ⟨v, h1, va_Z.moved ha h2⟩), va_Mi.moved ha h.2.2.2.2.2.2.2.2.1, va_Dc.moved ha h.2.2.2.2.2.2.2.2.2⟩
theorem over_vm {t : FieldType} {A A' : Array Value} {u U : State} (h : u.vm = U.vm) (hb : (Cond.arrayOver t).before A u = true) : (Cond.arrayOver t).before A' U = true := by
  have e : (Cond.arrayOver t).before A (u.setVm U.vm) = (Cond.arrayOver t).before A' (U.setVm U.vm) := rfl
  have h1 : u.setVm U.vm = u := by rw [← h]; rfl
  have h2 : U.setVm U.vm = U := rfl
  rw [h1, h2] at e
  rw [← e]
  exact hb
theorem over_warm {t : FieldType} {s U : State} (hW : s.WarmedH U.vm) (h : va_Nw (.arrayOver t) s) : va_Nw (.arrayOver t) U := over_vm (rfl : (s.setVm U.vm).vm = U.vm) (by rw [Cond.arrayOver_setVmC hW.alike]; exact h)
theorem KN.warm {s U : State} (hW : s.WarmedH U.vm) (h : KN s) : KN U := by
  intro w hw
  have h1 := h w hw
  have h2 := (List.mem_filter.mp hw).2
  cases w <;> first | exact va_Nw.warmF hW h1 | exact va_Nw.warmM hW h1 | exact va_Nw.warmC hW h1 | exact over_warm hW h1 | cases h2
theorem KN.same {s U : State} (hv : U.vm = s.vm) (h : KN s) : KN U := by
  intro w hw
  have h1 := h w hw
  have h2 := (List.mem_filter.mp hw).2
  cases w <;> first | exact va_Nw.same rfl hv.symm h1 | exact over_vm hv.symm h1 | cases h2
theorem KA.warm {g : GG} {HB : Heap} {s U : State} (hW : s.WarmedH U.vm) (h : KA g HB s) : KA g HB U := ⟨va_K.moved hW.alike h.1, h.2.1.warm hW, h.2.2.warm hW⟩
theorem KA.same {g : GG} {HB : Heap} {s U : State} (hv : U.vm = s.vm) (h : KA g HB s) : KA g HB U := ⟨va_K.moved (by rw [hv]; exact Vm.Alike.refl _) h.1, h.2.1.same hv, h.2.2.same hv⟩
