/-! THE WALK BY COMPUTING. A method's run on a heap that is known is computed by a function of our own ('run', part 06); that the machine does the same is shown once, instruction by instruction (PSnd, Snd). Here: values, cells, locals as that function sees them, and what they mean. -/
/-- a known int, a known long, or a value in the kit's words: .ref k is the k-th cell made since the ground, .float k the k-th cell that was there before -/
abbrev AV : Type := Nat ⊕ Nat ⊕ Value
/-- an array (which kind, how long, what it holds by places, 0 or null elsewhere), or an object (which class, its fields) -/
abbrev AE : Type := (Nat × Nat × List (Nat × AV)) ⊕ (Nat × List AV)
/-- the ground: the first new address, the outside cells, the classes' numbers, the array classes -/
abbrev GG : Type := Nat × (Nat → Nat) × va_G × (Nat → ClassId)
/-- an int that is not known: symbol c; the script's ints are the symbols below 400 -/
def gS (g : GG) (c : Nat) : Int32 := nI (g.2.1 (2000 + c))
/-- .retAddr k: below 10 a reference from outside that may be null, else the int of code k - 10 -/
def cV (g : GG) (a : AV) : Value := match a with
  | .inl n => .int (nI n)
  | .inr (.inl n) => .long (lN n)
  | .inr (.inr v) => match v with
    | .ref k => .ref (g.1 + k)
    | .float k => .ref (g.2.1 k.toNat)
    | .retAddr k => match Nat.ble 10 k with
      | true => .int (gS g (k - 10))
      | false => match g.2.1 (1000 + k) with
        | 0 => .null
        | q + 1 => .ref q
    | .double k => .long (lN (g.2.1 (2000 + k.toNat)))
    | w => w
/-- how many cells, or slots: a number, and symbols (a length that isn't known) -/
abbrev Cnt : Type := Nat × List Nat
def cvs (g : GG) (l : List Nat) : Nat := match l with
  | [] => 0
  | i :: t => (gS g i).toInt.toNat + cvs g t
def cv (g : GG) (k : Cnt) : Nat := k.1 + cvs g k.2
def cInc (k : Cnt) (n : Nat) : Cnt := (k.1 + n, k.2)
def cAdd (a b : Cnt) : Cnt := (a.1 + b.1, a.2 ++ b.2)
theorem cv_inc (g : GG) (k : Cnt) (n : Nat) : cv g (cInc k n) = cv g k + n := by
  show k.1 + n + cvs g k.2 = k.1 + cvs g k.2 + n
  omega
theorem cvs_app (g : GG) : ∀ a b : List Nat, cvs g (a ++ b) = cvs g a + cvs g b
  | [], b => by show cvs g b = 0 + cvs g b; omega
  | i :: t, b => by
    show (gS g i).toInt.toNat + cvs g (t ++ b) = (gS g i).toInt.toNat + cvs g t + cvs g b
    rw [cvs_app g t b]
    omega
theorem cv_add (g : GG) (a b : Cnt) : cv g (cAdd a b) = cv g a + cv g b := by
  show a.1 + b.1 + cvs g (a.2 ++ b.2) = a.1 + cvs g a.2 + (b.1 + cvs g b.2)
  rw [cvs_app]
  omega
def isI (a : AV) : Bool := match a with
  | .inl _ => true
  | .inr (.inl _) => false
  | .inr (.inr v) => match v with
    | .retAddr k => Nat.ble 10 k
    | _ => false
def gI (g : GG) (a : AV) : Int32 := match a with
  | .inl n => nI n
  | .inr (.inl _) => 0
  | .inr (.inr v) => match v with
    | .retAddr k => gS g (k - 10)
    | _ => 0
def isL (a : AV) : Bool := match a with
  | .inl _ => false
  | .inr (.inl _) => true
  | .inr (.inr v) => match v with
    | .long _ => true
    | _ => false
def gL (a : AV) : Int64 := match a with
  | .inl _ => 0
  | .inr (.inl n) => lN n
  | .inr (.inr v) => match v with
    | .long x => x
    | _ => 0
def isR (a : AV) : Bool := match a with
  | .inl _ => false
  | .inr (.inl _) => false
  | .inr (.inr v) => match v with
    | .ref _ => true
    | .float _ => true
    | _ => false
def gR (g : GG) (a : AV) : Nat := match a with
  | .inl _ => 0
  | .inr (.inl _) => 0
  | .inr (.inr v) => match v with
    | .ref k => g.1 + k
    | .float k => g.2.1 k.toNat
    | _ => 0
def ct (a : AV) : Nat := match a with
  | .inl _ => 1
  | .inr (.inl _) => 2
  | .inr (.inr v) => v.category
theorem cV_I {g : GG} {a : AV} (h : isI a = true) : cV g a = .int (gI g a) := by
  rcases a with n | n | v
  · rfl
  · cases h
  · cases v <;> first | cases h | skip
    rename_i k
    have h : Nat.ble 10 k = true := h
    show (match Nat.ble 10 k with | true => Value.int (gS g (k - 10)) | false => match g.2.1 (1000 + k) with | 0 => Value.null | q + 1 => Value.ref q) = _
    rw [h]
    rfl
theorem cV_L {g : GG} {a : AV} (h : isL a = true) : cV g a = .long (gL a) := by
  rcases a with n | n | v
  · cases h
  · rfl
  · cases v <;> first | rfl | cases h
theorem cV_R {g : GG} {a : AV} (h : isR a = true) : cV g a = .ref (gR g a) := by
  rcases a with n | n | v
  · cases h
  · cases h
  · cases v <;> first | rfl | cases h
theorem cV_cat (g : GG) (a : AV) : (cV g a).category = ct a := by
  rcases a with n | n | v
  · rfl
  · rfl
  · cases v <;> first | rfl | skip
    rename_i k
    show (match Nat.ble 10 k with | true => Value.int (gS g (k - 10)) | false => match g.2.1 (1000 + k) with | 0 => Value.null | q + 1 => Value.ref q).category = 1
    cases Nat.ble 10 k
    · cases g.2.1 (1000 + k) <;> rfl
    · rfl
/-- a number, looked at at once -/
def fz {α : Type} (n : Nat) (k : Nat → α) : α := match n with
  | 0 => k 0
  | m + 1 => k (Nat.succ m)
theorem fz_eq {α : Type} (n : Nat) (k : Nat → α) : fz n k = k n := by cases n <;> rfl
def fzv {α : Type} (a : AV) (k : AV → α) : α := match a with
  | .inl n => fz n (fun n => k (.inl n))
  | .inr (.inl n) => fz n (fun n => k (.inr (.inl n)))
  | .inr (.inr v) => k (.inr (.inr v))
theorem fzv_eq {α : Type} (a : AV) (k : AV → α) : fzv a k = k a := by
  rcases a with n | n | v
  · exact fz_eq n (fun n => k (.inl n))
  · exact fz_eq n (fun n => k (.inr (.inl n)))
  · rfl
def fzs {α β : Type} (l : List α) (k : List α → β) : β := match l with
  | [] => k []
  | a :: t => fzs t (fun t' => k (a :: t'))
theorem fzs_eq {α β : Type} (l : List α) : ∀ (k : List α → β), fzs l k = k l := by
  induction l with
  | nil => intro k; rfl
  | cons a t ih => intro k; exact ih _
def toN (x : Int32) : Nat := x.toBitVec.toNat
theorem nI_toN (x : Int32) : nI (toN x) = x := by
  apply Int32.toBitVec_inj.mp
  show BitVec.ofNat 32 x.toBitVec.toNat = x.toBitVec
  simp
def toN64 (x : Int64) : Nat := x.toBitVec.toNat
theorem lN_toN (x : Int64) : lN (toN64 x) = x := by
  apply Int64.toBitVec_inj.mp
  show BitVec.ofNat 64 x.toBitVec.toNat = x.toBitVec
  simp
-- locals
def cL (g : GG) (L : List (Nat × AV)) : List (Nat × Value) := L.map (fun q => (q.1, cV g q.2))
def alk {α : Type} (L : List (Nat × α)) (i : Nat) : Option α := match L with
  | [] => none
  | q :: t => match Nat.beq q.1 i with
    | true => some q.2
    | false => alk t i
theorem alk_mem {α : Type} {L : List (Nat × α)} {i : Nat} {v : α} (h : alk L i = some v) : (i, v) ∈ L := by
  induction L with
  | nil => cases h
  | cons q t ih =>
    unfold alk at h
    cases hb : Nat.beq q.1 i with
    | true =>
      rw [hb] at h
      have h1 : q.1 = i := Nat.eq_of_beq_eq_true hb
      have h2 : q.2 = v := Option.some.inj h
      subst h1; subst h2
      exact List.mem_cons_self
    | false =>
      rw [hb] at h
      exact List.mem_cons_of_mem _ (ih h)
theorem alk_at {g : GG} {L : List (Nat × AV)} {i nL : Nat} {v : AV} {ls : Array Slot} (hl : lv_has ls nL (cL g L)) (h : alk L i = some v) : ls[i]? = some (.val (cV g v)) :=
  hl.2.2 (i, cV g v) (List.mem_map.mpr ⟨(i, v), alk_mem h, rfl⟩)
def up1 (i : Nat) (v : AV) (L : List (Nat × AV)) : List (Nat × AV) := (i, v) :: L.filter (fun q => !(q.1 == i) && !(q.1 + 1 == i && ct q.2 == 2))
def up2 (i : Nat) (v : AV) (L : List (Nat × AV)) : List (Nat × AV) := (i, v) :: L.filter (fun q => !(q.1 == i) && (!(q.1 == i + 1) && !(q.1 + 1 == i && ct q.2 == 2)))
theorem cL_up1 (g : GG) (i : Nat) (v : AV) (L : List (Nat × AV)) : (i, cV g v) :: (cL g L).filter (fun q => !(q.1 == i) && !(q.1 + 1 == i && q.2.category == 2)) = cL g (up1 i v L) := by
  unfold cL up1
  rw [List.filter_map, List.map_cons]
  congr 2
  apply List.filter_congr
  intro q _
  simp only [Function.comp, cV_cat]
theorem cL_up2 (g : GG) (i : Nat) (v : AV) (L : List (Nat × AV)) : (i, cV g v) :: (cL g L).filter (fun q => !(q.1 == i) && (!(q.1 == i + 1) && !(q.1 + 1 == i && q.2.category == 2))) = cL g (up2 i v L) := by
  unfold cL up2
  rw [List.filter_map, List.map_cons]
  congr 2
  apply List.filter_congr
  intro q _
  simp only [Function.comp, cV_cat]
-- numbers
def iop1 (f : Int32 → Int32) (a : AV) : Option AV := match a with
  | .inl x => some (.inl (toN (f (nI x))))
  | .inr _ => none
theorem iop1_ok {g : GG} {f : Int32 → Int32} {a r : AV} (h : iop1 f a = some r) : cV g a = .int (gI g a) ∧ cV g r = .int (f (gI g a)) ∧ gI g r = f (gI g a) := by
  rcases a with n | b
  · cases h
    have e : nI (toN (f (nI n))) = f (nI n) := nI_toN _
    exact ⟨rfl, by show Value.int (nI (toN _)) = _; rw [e]; rfl, e⟩
  · cases h
def iop2 (f : Int32 → Int32 → Int32) (a b : AV) : Option AV := match a, b with
  | .inl x, .inl y => some (.inl (toN (f (nI x) (nI y))))
  | _, _ => none
theorem iop2_ok {g : GG} {f : Int32 → Int32 → Int32} {a b r : AV} (h : iop2 f a b = some r) : cV g a = .int (gI g a) ∧ cV g b = .int (gI g b) ∧ cV g r = .int (f (gI g a) (gI g b)) := by
  rcases a with n | a <;> rcases b with k | b
  · cases h
    exact ⟨rfl, rfl, by show Value.int (nI (toN _)) = _; rw [nI_toN]; rfl⟩
  · cases h
  · cases h
  · cases h
def f_i2b (x : Int32) : Int32 := x.toInt8.toInt32
def f_shr (x y : Int32) : Int32 := x >>> (y &&& 31)
def shrA (a b : AV) : Option AV := iop2 f_shr a b
theorem shrA_ok {g : GG} {a b r : AV} (h : shrA a b = some r) : cV g a = .int (gI g a) ∧ cV g b = .int (gI g b) ∧ cV g r = .int (f_shr (gI g a) (gI g b)) := iop2_ok h
def i2bA (a : AV) : Option AV := iop1 f_i2b a
theorem i2bA_ok {g : GG} {a r : AV} (h : i2bA a = some r) : cV g a = .int (gI g a) ∧ cV g r = .int (f_i2b (gI g a)) ∧ gI g r = f_i2b (gI g a) := iop1_ok h
def lop2 (f : Int64 → Int64 → Int64) (a b : AV) : Option AV := match a, b with
  | .inr (.inl x), .inr (.inl y) => some (.inr (.inl (toN64 (f (lN x) (lN y)))))
  | a, b => match isL a && isL b with
    | true => some (.inr (.inr (.long (f (gL a) (gL b)))))
    | false => none
theorem lop2_ok {g : GG} {f : Int64 → Int64 → Int64} {a b r : AV} (h : lop2 f a b = some r) : cV g a = .long (gL a) ∧ cV g b = .long (gL b) ∧ cV g r = .long (f (gL a) (gL b)) := by
  have key : ∀ a b : AV, (match isL a && isL b with | true => some (.inr (.inr (.long (f (gL a) (gL b))))) | false => none) = some r → cV g a = .long (gL a) ∧ cV g b = .long (gL b) ∧ cV g r = .long (f (gL a) (gL b)) := by
    intro a b h
    cases hb : isL a && isL b with
    | false => rw [hb] at h; cases h
    | true =>
      rw [hb] at h
      cases h
      rw [Bool.and_eq_true] at hb
      exact ⟨cV_L hb.1, cV_L hb.2, rfl⟩
  rcases a with n | n | a <;> rcases b with k | k | b
  all_goals first | exact key _ _ h | skip
  cases h
  exact ⟨rfl, rfl, by show Value.long (lN (toN64 _)) = _; rw [lN_toN]; rfl⟩
/-- what was asked of numbers: which question, of what, and what was foretold -/
abbrev CSL : Type := List (Nat × AV × AV × Bool)
def cnd (c : Nat) (x y : Int32) : Bool := match c with
  | 0 => decide (x = y)
  | 1 => !decide (x = y)
  | 2 => decide (x < y)
  | 3 => decide (y ≤ x)
  | 4 => decide (y < x)
  | 5 => decide (x ≤ y)
  | _ => decide (x.toInt < 0) || decide (y.toInt < x.toInt)
def okc (g : GG) (cs : CSL) : Prop := ∀ q ∈ cs, cnd q.1 (gI g q.2.1) (gI g q.2.2.1) = q.2.2.2
