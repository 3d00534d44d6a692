/-! Steps that touch no cell. -/
abbrev I32 (a : Int) : Prop := -2147483648 ≤ a ∧ a < 2147483648
theorem tI_of {a : Int} (h : I32 a) : (Int32.ofInt a).toInt = a := Int32.toInt_ofInt_of_le (by omega) (by omega)
theorem ofInt_toInt (x : Int32) : Int32.ofInt x.toInt = x := Int32.ofInt_toInt x
theorem i32_toInt (x : Int32) : I32 x.toInt := ⟨Int32.le_toInt x, Int32.toInt_lt x⟩
theorem lt_of {a b : Int} (ha : I32 a) (hb : I32 b) : (Int32.ofInt a < Int32.ofInt b) ↔ a < b := by rw [Int32.lt_iff_toInt_lt, tI_of ha, tI_of hb]
theorem le_of {a b : Int} (ha : I32 a) (hb : I32 b) : (Int32.ofInt a ≤ Int32.ofInt b) ↔ a ≤ b := by rw [Int32.le_iff_toInt_le, tI_of ha, tI_of hb]
theorem eq_of {a b : Int} (ha : I32 a) (hb : I32 b) : (Int32.ofInt a = Int32.ofInt b) ↔ a = b := by rw [← Int32.toInt_inj, tI_of ha, tI_of hb]
theorem zero_of : (0 : Int32) = Int32.ofInt 0 := rfl
section TO
variable {l : Launch} {E : ME} {pc : Nat} {L : LL} {st : List V} {h : Hp} {k z : Nat} {F : Option V → Hp → Nat → Nat → Prop}
theorem sx_pure {pc' : Nat} {L' : LL} {st' : List V}
    (row : ∀ (g : GG) (HB : Heap) (p : Program) (e : Env) (R : Room) (s : State) (m : MethodId) (args : Array Value) (below : List Frame) (meth : Method) (c : Code) (Q : State → Prop) (H : Heap) (locs : List Loc) (ls : Array Slot), Cx g HB p s m args meth c E → lv_has ls E.2.1 (dL g L) →
      (∀ ls' : Array Slot, lv_has ls' E.2.1 (dL g L') → W p l e R s m args below meth c H locs k z Q (F0 m pc' ls' (st'.map (dv g)))) → W p l e R s m args below meth c H locs k z Q (F0 m pc ls (st.map (dv g)))) :
    Sx_ l E (pc, L, st, h, k, z) (pc', L', st', h, k, z) :=
  ⟨⟨Nat.le_refl _, Nat.le_refl _⟩, fun g HB p e R s m args below meth c Q H locs ls hC _ _ _ _ hR hl kk => row g HB p e R s m args below meth c Q H locs ls hC hl fun ls' hl' => kk H locs ls' hR hl'⟩

theorem to_iconst {i : Int} (hd : decode E.1 pc = .ok (.iconst i, 1)) (k0 : To l E (pc + 1, L, .inl i :: st, h, k, z) F) : To l E (pc, L, st, h, k, z) F :=
  to_of (sx_pure (fun g HB p e R s m args below meth c Q H locs ls hC hl kk => lv_iconst hC.1.1 hC.1.2.1 hd rfl (kk ls hl))) k0
theorem i8_of {i : Int} (h : -128 ≤ i ∧ i < 128) : (Int8.ofInt i).toInt32 = Int32.ofInt i := by
  apply Int32.toInt_inj.mp
  rw [Int8.toInt_toInt32, tI_of (by omega), Int8.toInt_ofInt_of_le (by omega) (by omega)]
theorem i16_of {i : Int} (h : -32768 ≤ i ∧ i < 32768) : (Int16.ofInt i).toInt32 = Int32.ofInt i := by
  apply Int32.toInt_inj.mp
  rw [Int16.toInt_toInt32, tI_of (by omega), Int16.toInt_ofInt_of_le (by omega) (by omega)]
theorem to_bipush {i : Int} (hd : decode E.1 pc = .ok (.bipush i, 2)) (hi : -128 ≤ i ∧ i < 128) (k0 : To l E (pc + 2, L, .inl i :: st, h, k, z) F) : To l E (pc, L, st, h, k, z) F :=
  to_of (sx_pure (fun g HB p e R s m args below meth c Q H locs ls hC hl kk => lv_bipush hC.1.1 hC.1.2.1 hd (i8_of hi) (kk ls hl))) k0
theorem to_sipush {i : Int} (hd : decode E.1 pc = .ok (.sipush i, 3)) (hi : -32768 ≤ i ∧ i < 32768) (k0 : To l E (pc + 3, L, .inl i :: st, h, k, z) F) : To l E (pc, L, st, h, k, z) F :=
  to_of (sx_pure (fun g HB p e R s m args below meth c Q H locs ls hC hl kk => lv_sipush hC.1.1 hC.1.2.1 hd (i16_of hi) (kk ls hl))) k0
theorem to_lconst {i : Fin 2} {v : Int} (hd : decode E.1 pc = .ok (.lconst i, 1)) (hv : Int64.ofNat (i : Nat) = Int64.ofInt v) (k0 : To l E (pc + 1, L, .inr (.inl v) :: st, h, k, z) F) : To l E (pc, L, st, h, k, z) F :=
  to_of (sx_pure (fun g HB p e R s m args below meth c Q H locs ls hC hl kk => lv_lconst hC.1.1 hC.1.2.1 hd hv (kk ls hl))) k0
theorem to_null (hd : decode E.1 pc = .ok (.aconst_null, 1)) (k0 : To l E (pc + 1, L, .inr (.inr 0) :: st, h, k, z) F) : To l E (pc, L, st, h, k, z) F :=
  to_of (sx_pure (fun g HB p e R s m args below meth c Q H locs ls hC hl kk => lv_null hC.1.1 hC.1.2.1 hd (kk ls hl))) k0
theorem to_iload {i : Nat} {x : Int} (hd : decode E.1 pc = .ok (.iload i, 2)) (ha : alk L i = some (.inl x)) (k0 : To l E (pc + 2, L, (.inl x) :: st, h, k, z) F) : To l E (pc, L, st, h, k, z) F :=
  to_of (sx_pure (fun g HB p e R s m args below meth c Q H locs ls hC hl kk => lv_iload hC.1.1 hC.1.2.1 hd (alk_at hl ha) (kk ls hl))) k0
theorem to_iload_n {i : Fin 4} {x : Int} (hd : decode E.1 pc = .ok (.iload_n i, 1)) (ha : alk L i = some (.inl x)) (k0 : To l E (pc + 1, L, (.inl x) :: st, h, k, z) F) : To l E (pc, L, st, h, k, z) F :=
  to_of (sx_pure (fun g HB p e R s m args below meth c Q H locs ls hC hl kk => lv_iload_n hC.1.1 hC.1.2.1 hd rfl (alk_at hl ha) (kk ls hl))) k0
theorem to_lload {i : Nat} {x : Int} (hd : decode E.1 pc = .ok (.lload i, 2)) (ha : alk L i = some (.inr (.inl x))) (k0 : To l E (pc + 2, L, (.inr (.inl x)) :: st, h, k, z) F) : To l E (pc, L, st, h, k, z) F :=
  to_of (sx_pure (fun g HB p e R s m args below meth c Q H locs ls hC hl kk => lv_lload hC.1.1 hC.1.2.1 hd (alk_at hl ha) (kk ls hl))) k0
theorem to_lload_n {i : Fin 4} {x : Int} (hd : decode E.1 pc = .ok (.lload_n i, 1)) (ha : alk L i = some (.inr (.inl x))) (k0 : To l E (pc + 1, L, (.inr (.inl x)) :: st, h, k, z) F) : To l E (pc, L, st, h, k, z) F :=
  to_of (sx_pure (fun g HB p e R s m args below meth c Q H locs ls hC hl kk => lv_lload_n hC.1.1 hC.1.2.1 hd rfl (alk_at hl ha) (kk ls hl))) k0
theorem to_aload {i x : Nat} (hd : decode E.1 pc = .ok (.aload i, 2)) (ha : alk L i = some (.inr (.inr (x + 1)))) (k0 : To l E (pc + 2, L, .inr (.inr (x + 1)) :: st, h, k, z) F) : To l E (pc, L, st, h, k, z) F :=
  to_of (sx_pure (fun g HB p e R s m args below meth c Q H locs ls hC hl kk => lv_aload hC.1.1 hC.1.2.1 hd (alk_at hl ha) (kk ls hl))) k0
theorem to_aload_n {i : Fin 4} {x : Nat} (hd : decode E.1 pc = .ok (.aload_n i, 1)) (ha : alk L i = some (.inr (.inr (x + 1)))) (k0 : To l E (pc + 1, L, .inr (.inr (x + 1)) :: st, h, k, z) F) : To l E (pc, L, st, h, k, z) F :=
  to_of (sx_pure (fun g HB p e R s m args below meth c Q H locs ls hC hl kk => lv_aload_n hC.1.1 hC.1.2.1 hd rfl (alk_at hl ha) (kk ls hl))) k0
theorem to_aload_p {i x : Nat} (hd : decode E.1 pc = .ok (.aload i, 2)) (hp : 0 < x) (ha : alk L i = some (.inr (.inr x))) (k0 : To l E (pc + 2, L, .inr (.inr x) :: st, h, k, z) F) : To l E (pc, L, st, h, k, z) F := by
  cases x with
  | zero => omega
  | succ y => exact to_aload hd ha k0
theorem to_aload_np {i : Fin 4} {x : Nat} (hd : decode E.1 pc = .ok (.aload_n i, 1)) (hp : 0 < x) (ha : alk L i = some (.inr (.inr x))) (k0 : To l E (pc + 1, L, .inr (.inr x) :: st, h, k, z) F) : To l E (pc, L, st, h, k, z) F := by
  cases x with
  | zero => omega
  | succ y => exact to_aload_n hd ha k0
theorem to_istore {i : Nat} {x : Int} {L' : LL} (hd : decode E.1 pc = .ok (.istore i, 2)) (hi : i < E.2.1) (hL : ups i (.inl x) L = L') (k0 : To l E (pc + 2, L', st, h, k, z) F) : To l E (pc, L, (.inl x) :: st, h, k, z) F :=
  to_of (sx_pure (fun g HB p e R s m args below meth c Q H locs ls hC hl kk => lv_istore hC.1.1 hC.1.2.1 hd hl hi rfl (fun ls' h' => kk ls' (lv_less h' (by subst hL; exact ups_sub))))) k0
theorem to_istore_n {i : Fin 4} {x : Int} {L' : LL} (hd : decode E.1 pc = .ok (.istore_n i, 1)) (hi : (i : Nat) < E.2.1) (hL : ups i (.inl x) L = L') (k0 : To l E (pc + 1, L', st, h, k, z) F) : To l E (pc, L, (.inl x) :: st, h, k, z) F :=
  to_of (sx_pure (fun g HB p e R s m args below meth c Q H locs ls hC hl kk => lv_istore_n hC.1.1 hC.1.2.1 hd rfl hl hi rfl (fun ls' h' => kk ls' (lv_less h' (by subst hL; exact ups_sub))))) k0
theorem to_astore {i : Nat} {x : Nat} {L' : LL} (hd : decode E.1 pc = .ok (.astore i, 2)) (hp : 0 < x) (hi : (i : Nat) < E.2.1) (hL : ups i (.inr (.inr x)) L = L') (k0 : To l E (pc + 2, L', st, h, k, z) F) : To l E (pc, L, .inr (.inr x) :: st, h, k, z) F := by
  cases x with
  | zero => omega
  | succ y => exact to_of (sx_pure (fun g HB p e R s m args below meth c Q H locs ls hC hl kk => lv_astore hC.1.1 hC.1.2.1 hd hl hi rfl (fun ls' h' => kk ls' (lv_less h' (by subst hL; exact ups_sub))))) k0
theorem to_astore_n {i : Fin 4} {x : Nat} {L' : LL} (hd : decode E.1 pc = .ok (.astore_n i, 1)) (hp : 0 < x) (hi : (i : Nat) < E.2.1) (hL : ups i (.inr (.inr x)) L = L') (k0 : To l E (pc + 1, L', st, h, k, z) F) : To l E (pc, L, .inr (.inr x) :: st, h, k, z) F := by
  cases x with
  | zero => omega
  | succ y => exact to_of (sx_pure (fun g HB p e R s m args below meth c Q H locs ls hC hl kk => lv_astore_n hC.1.1 hC.1.2.1 hd rfl hl hi rfl (fun ls' h' => kk ls' (lv_less h' (by subst hL; exact ups_sub))))) k0
theorem to_lstore {i : Nat} {x : Int} {L' : LL} (hd : decode E.1 pc = .ok (.lstore i, 2)) (hi : (i : Nat) + 1 < E.2.1) (hL : upl i (.inr (.inl x)) L = L') (k0 : To l E (pc + 2, L', st, h, k, z) F) : To l E (pc, L, .inr (.inl x) :: st, h, k, z) F :=
  to_of (sx_pure (fun g HB p e R s m args below meth c Q H locs ls hC hl kk => lv_lstore hC.1.1 hC.1.2.1 hd hl hi rfl (fun ls' h' => kk ls' (by subst hL; rw [← upl_eq]; exact h')))) k0
theorem to_lstore_n {i : Fin 4} {x : Int} {L' : LL} (hd : decode E.1 pc = .ok (.lstore_n i, 1)) (hi : (i : Nat) + 1 < E.2.1) (hL : upl i (.inr (.inl x)) L = L') (k0 : To l E (pc + 1, L', st, h, k, z) F) : To l E (pc, L, .inr (.inl x) :: st, h, k, z) F :=
  to_of (sx_pure (fun g HB p e R s m args below meth c Q H locs ls hC hl kk => lv_lstore_n hC.1.1 hC.1.2.1 hd rfl hl hi rfl (fun ls' h' => kk ls' (by subst hL; rw [← upl_eq]; exact h')))) k0
theorem to_iinc {i : Nat} {d x : Int} {L' : LL} (hd : decode E.1 pc = .ok (.iinc i d, 3)) (ha : alk L i = some (.inl x)) (hi : i < E.2.1) (hL : ups i (.inl (x + d)) L = L') (k0 : To l E (pc + 3, L', st, h, k, z) F) : To l E (pc, L, st, h, k, z) F := by
  refine to_of (sx_pure (fun g HB p e R s m args below meth c Q H locs ls hC hl kk => ?_)) k0
  have hm : (i, dv g (.inl x)) ∈ dL g L := List.mem_map.mpr ⟨(i, .inl x), alk_mem ha, rfl⟩
  obtain ⟨j, hj⟩ := List.getElem?_of_mem hm
  exact lv_iinc hC.1.1 hC.1.2.1 hd hl hj rfl hi rfl (fun ls' h' => kk ls' (lv_less h' (by subst hL; rw [← Int32.ofInt_add]; exact ups_sub)))
theorem to_iadd {x y : Int} (hd : decode E.1 pc = .ok (.iadd, 1)) (k0 : To l E (pc + 1, L, .inl (x + y) :: st, h, k, z) F) : To l E (pc, L, .inl y :: .inl x :: st, h, k, z) F :=
  to_of (sx_pure (fun g HB p e R s m args below meth c Q H locs ls hC hl kk => lv_iadd hC.1.1 hC.1.2.1 hd (by rw [← Int32.ofInt_add]; exact kk ls hl))) k0
theorem to_isub {x y : Int} (hd : decode E.1 pc = .ok (.isub, 1)) (k0 : To l E (pc + 1, L, .inl (x - y) :: st, h, k, z) F) : To l E (pc, L, .inl y :: .inl x :: st, h, k, z) F :=
  to_of (sx_pure (fun g HB p e R s m args below meth c Q H locs ls hC hl kk => lv_isub hC.1.1 hC.1.2.1 hd (by rw [← Int32.ofInt_sub]; exact kk ls hl))) k0
theorem to_imul {x y : Int} (hd : decode E.1 pc = .ok (.imul, 1)) (k0 : To l E (pc + 1, L, .inl (x * y) :: st, h, k, z) F) : To l E (pc, L, .inl y :: .inl x :: st, h, k, z) F :=
  to_of (sx_pure (fun g HB p e R s m args below meth c Q H locs ls hC hl kk => lv_imul hC.1.1 hC.1.2.1 hd (by rw [← Int32.ofInt_mul]; exact kk ls hl))) k0
theorem to_ineg {x : Int} (hd : decode E.1 pc = .ok (.ineg, 1)) (k0 : To l E (pc + 1, L, .inl (-x) :: st, h, k, z) F) : To l E (pc, L, .inl x :: st, h, k, z) F :=
  to_of (sx_pure (fun g HB p e R s m args below meth c Q H locs ls hC hl kk => lv_ineg hC.1.1 hC.1.2.1 hd (by rw [← Int32.ofInt_neg]; exact kk ls hl))) k0
/-- some int, what it is told by P -/
theorem to_someI {pc' : Nat} {st0 : List V} {P : Int → Prop} (x : Int32) (hP : P x.toInt) (row : ∀ (g : GG) (HB : Heap) (p : Program) (e : Env) (R : Room) (s : State) (m : MethodId) (args : Array Value) (below : List Frame) (meth : Method) (c : Code) (Q : State → Prop) (H : Heap) (locs : List Loc) (ls : Array Slot), Cx g HB p s m args meth c E → lv_has ls E.2.1 (dL g L) →
      W p l e R s m args below meth c H locs k z Q (F0 m pc' ls (.int x :: st0.map (dv g))) → W p l e R s m args below meth c H locs k z Q (F0 m pc ls (st.map (dv g))))
    (k0 : ∀ y : Int, I32 y → P y → To l E (pc', L, .inl y :: st0, h, k, z) F) : To l E (pc, L, st, h, k, z) F :=
  to_of (sx_pure (fun g HB p e R s m args below meth c Q H locs ls hC hl kk => row g HB p e R s m args below meth c Q H locs ls hC hl (by
    have h9 := kk ls hl
    rw [List.map_cons] at h9
    have e9 : dv g (.inl x.toInt) = .int x := congrArg Value.int (ofInt_toInt x)
    rw [e9] at h9
    exact h9))) (k0 x.toInt (i32_toInt x) hP)
theorem to_someL {pc' : Nat} {st0 : List V} (x : Int64) (row : ∀ (g : GG) (HB : Heap) (p : Program) (e : Env) (R : Room) (s : State) (m : MethodId) (args : Array Value) (below : List Frame) (meth : Method) (c : Code) (Q : State → Prop) (H : Heap) (locs : List Loc) (ls : Array Slot), Cx g HB p s m args meth c E → lv_has ls E.2.1 (dL g L) →
      W p l e R s m args below meth c H locs k z Q (F0 m pc' ls (.long x :: st0.map (dv g))) → W p l e R s m args below meth c H locs k z Q (F0 m pc ls (st.map (dv g))))
    (k0 : ∀ y : Int, To l E (pc', L, .inr (.inl y) :: st0, h, k, z) F) : To l E (pc, L, st, h, k, z) F :=
  to_of (sx_pure (fun g HB p e R s m args below meth c Q H locs ls hC hl kk => row g HB p e R s m args below meth c Q H locs ls hC hl (by
    have h9 := kk ls hl
    rw [List.map_cons] at h9
    have e9 : dv g (.inr (.inl x.toInt)) = .long x := congrArg Value.long (Int64.ofInt_toInt x)
    rw [e9] at h9
    exact h9))) (k0 x.toInt)
theorem to_ior {x y : Int} (hd : decode E.1 pc = .ok (.ior, 1)) (k0 : ∀ y : Int, I32 y → To l E (pc + 1, L, .inl y :: st, h, k, z) F) : To l E (pc, L, .inl y :: .inl x :: st, h, k, z) F :=
  to_someI (P := fun _ => True) (Int32.ofInt x ||| Int32.ofInt y) trivial (fun g HB p e R s m args below meth c Q H locs ls hC hl kk => lv_ior hC.1.1 hC.1.2.1 hd kk) (fun y hy _ => k0 y hy)
theorem to_ixor {x y : Int} (hd : decode E.1 pc = .ok (.ixor, 1)) (k0 : ∀ y : Int, I32 y → To l E (pc + 1, L, .inl y :: st, h, k, z) F) : To l E (pc, L, .inl y :: .inl x :: st, h, k, z) F :=
  to_someI (P := fun _ => True) (Int32.ofInt x ^^^ Int32.ofInt y) trivial (fun g HB p e R s m args below meth c Q H locs ls hC hl kk => lv_ixor hC.1.1 hC.1.2.1 hd kk) (fun y hy _ => k0 y hy)
theorem to_ishl {x y : Int} (hd : decode E.1 pc = .ok (.ishl, 1)) (k0 : ∀ y : Int, I32 y → To l E (pc + 1, L, .inl y :: st, h, k, z) F) : To l E (pc, L, .inl y :: .inl x :: st, h, k, z) F :=
  to_someI (P := fun _ => True) (Int32.ofInt x <<< (Int32.ofInt y &&& 31)) trivial (fun g HB p e R s m args below meth c Q H locs ls hC hl kk => lv_ishl hC.1.1 hC.1.2.1 hd kk) (fun y hy _ => k0 y hy)
theorem to_ishr {x y : Int} (hd : decode E.1 pc = .ok (.ishr, 1)) (k0 : ∀ y : Int, I32 y → To l E (pc + 1, L, .inl y :: st, h, k, z) F) : To l E (pc, L, .inl y :: .inl x :: st, h, k, z) F :=
  to_someI (P := fun _ => True) (Int32.ofInt x >>> (Int32.ofInt y &&& 31)) trivial (fun g HB p e R s m args below meth c Q H locs ls hC hl kk => lv_ishr hC.1.1 hC.1.2.1 hd kk) (fun y hy _ => k0 y hy)
theorem to_iushr {x y : Int} (hd : decode E.1 pc = .ok (.iushr, 1)) (k0 : ∀ y : Int, I32 y → To l E (pc + 1, L, .inl y :: st, h, k, z) F) : To l E (pc, L, .inl y :: .inl x :: st, h, k, z) F :=
  to_someI (P := fun _ => True) (((Int32.ofInt x).toUInt32 >>> ((Int32.ofInt y).toUInt32 &&& Int32.toUInt32 31)).toInt32) trivial (fun g HB p e R s m args below meth c Q H locs ls hC hl kk => lv_iushr hC.1.1 hC.1.2.1 hd rfl kk) (fun y hy _ => k0 y hy)
theorem to_idiv {x y : Int} (hd : decode E.1 pc = .ok (.idiv, 1)) (hy : I32 y ∧ y ≠ 0) (k0 : ∀ y : Int, I32 y → To l E (pc + 1, L, .inl y :: st, h, k, z) F) : To l E (pc, L, .inl y :: .inl x :: st, h, k, z) F :=
  to_someI (P := fun _ => True) (Int32.ofInt x / Int32.ofInt y) trivial (fun g HB p e R s m args below meth c Q H locs ls hC hl kk => lv_idiv hC.1.1 hC.1.2.1 hd (fun h0 => hy.2 ((eq_of hy.1 (by omega)).mp (h0.trans zero_of))) kk) (fun y hy _ => k0 y hy)
theorem to_irem {x y : Int} (hd : decode E.1 pc = .ok (.irem, 1)) (hy : I32 y ∧ y ≠ 0) (k0 : ∀ y : Int, I32 y → To l E (pc + 1, L, .inl y :: st, h, k, z) F) : To l E (pc, L, .inl y :: .inl x :: st, h, k, z) F :=
  to_someI (P := fun _ => True) (Int32.ofInt x - Int32.ofInt x / Int32.ofInt y * Int32.ofInt y) trivial (fun g HB p e R s m args below meth c Q H locs ls hC hl kk => lv_irem hC.1.1 hC.1.2.1 hd (fun h0 => hy.2 ((eq_of hy.1 (by omega)).mp (h0.trans zero_of))) kk) (fun y hy _ => k0 y hy)
theorem and_low (x : Int32) {n : Nat} {m : Int32} (hm : m.toBitVec.toNat = n) (hn : n < 2147483648) : 0 ≤ (x &&& m).toInt ∧ (x &&& m).toInt ≤ n := by
  have h1 : (x &&& m).toBitVec.toNat ≤ n := by
    rw [Int32.toBitVec_and, BitVec.toNat_and, hm]
    exact Nat.and_le_right
  have h2 : (x &&& m).toInt = ((x &&& m).toBitVec.toNat : Int) := by
    show (x &&& m).toBitVec.toInt = _
    rw [BitVec.toInt_eq_toNat_of_lt (by omega)]
  omega
/-- a mask m of n -/
theorem to_iand {x : Int} (m : Int) (n : Nat) (hd : decode E.1 pc = .ok (.iand, 1)) (hm : (Int32.ofInt m).toBitVec.toNat = n) (hn : n < 2147483648) (k0 : ∀ y : Int, I32 y → 0 ≤ y ∧ y ≤ n → To l E (pc + 1, L, .inl y :: st, h, k, z) F) : To l E (pc, L, .inl m :: .inl x :: st, h, k, z) F :=
  to_someI (P := fun y => 0 ≤ y ∧ y ≤ n) (Int32.ofInt x &&& Int32.ofInt m) (and_low _ hm hn) (fun g HB p e R s m args below meth c Q H locs ls hC hl kk => lv_iand hC.1.1 hC.1.2.1 hd kk) k0
theorem i2b_of (x : Int32) : x.toInt8.toInt32 = Int32.ofInt (Int.bmod x.toInt 256) := by
  apply Int32.toInt_inj.mp
  have h1 : -128 ≤ Int.bmod x.toInt 256 ∧ Int.bmod x.toInt 256 < 128 := by
    have := Int.le_bmod (x := x.toInt) (m := 256) (by omega)
    have := Int.bmod_lt (x := x.toInt) (m := 256) (by omega)
    omega
  rw [Int8.toInt_toInt32, tI_of (by omega), Int32.toInt_toInt8]
/-- what a byte keeps of a number -/
def b8 (x : Int) : Int := Int.bmod x 256
theorem b8_in (x : Int) : -128 ≤ b8 x ∧ b8 x < 128 := by
  have := Int.le_bmod (x := x) (m := 256) (by omega)
  have := Int.bmod_lt (x := x) (m := 256) (by omega)
  unfold b8
  omega
theorem b8_id {x : Int} (h : -128 ≤ x ∧ x < 128) : b8 x = x := Int.bmod_eq_of_le (by omega) (by omega)
theorem b8_wrap (x : Int) : Int.bmod (Int.bmod x 4294967296) 256 = Int.bmod x 256 := by
  rw [Int.bmod_def, Int.bmod_def x 256]
  have h : (Int.bmod x 4294967296) % ((256 : Nat) : Int) = x % ((256 : Nat) : Int) := by
    rw [Int.bmod_def]
    split <;> omega
  rw [h]
theorem to_i2b {x : Int} (hd : decode E.1 pc = .ok (.i2b, 1)) (k0 : To l E (pc + 1, L, .inl (b8 x) :: st, h, k, z) F) : To l E (pc, L, .inl x :: st, h, k, z) F :=
  to_of (sx_pure (fun g HB p e R s m args below meth c Q H locs ls hC hl kk => lv_i2b hC.1.1 hC.1.2.1 hd (v := Int32.ofInt (b8 x)) (by
    rw [i2b_of]
    unfold b8
    rw [Int32.toInt_ofInt]
    congr 1
    exact b8_wrap x) (kk ls hl))) k0
theorem to_i2c {x : Int} (hd : decode E.1 pc = .ok (.i2c, 1)) (k0 : ∀ y : Int, I32 y → To l E (pc + 1, L, .inl y :: st, h, k, z) F) : To l E (pc, L, .inl x :: st, h, k, z) F :=
  to_someI (P := fun _ => True) (((Int32.ofInt x).toUInt32 % 65536).toInt32) trivial (fun g HB p e R s m args below meth c Q H locs ls hC hl kk => lv_i2c hC.1.1 hC.1.2.1 hd rfl kk) (fun y hy _ => k0 y hy)
theorem to_ladd {x y : Int} (hd : decode E.1 pc = .ok (.ladd, 1)) (k0 : ∀ y : Int, To l E (pc + 1, L, .inr (.inl y) :: st, h, k, z) F) : To l E (pc, L, .inr (.inl y) :: .inr (.inl x) :: st, h, k, z) F :=
  to_someL (Int64.ofInt x + Int64.ofInt y) (fun g HB p e R s m args below meth c Q H locs ls hC hl kk => lv_ladd hC.1.1 hC.1.2.1 hd kk) k0
theorem to_lsub {x y : Int} (hd : decode E.1 pc = .ok (.lsub, 1)) (k0 : ∀ y : Int, To l E (pc + 1, L, .inr (.inl y) :: st, h, k, z) F) : To l E (pc, L, .inr (.inl y) :: .inr (.inl x) :: st, h, k, z) F :=
  to_someL (Int64.ofInt x - Int64.ofInt y) (fun g HB p e R s m args below meth c Q H locs ls hC hl kk => lv_lsub hC.1.1 hC.1.2.1 hd kk) k0
theorem to_lmul {x y : Int} (hd : decode E.1 pc = .ok (.lmul, 1)) (k0 : ∀ y : Int, To l E (pc + 1, L, .inr (.inl y) :: st, h, k, z) F) : To l E (pc, L, .inr (.inl y) :: .inr (.inl x) :: st, h, k, z) F :=
  to_someL (Int64.ofInt x * Int64.ofInt y) (fun g HB p e R s m args below meth c Q H locs ls hC hl kk => lv_lmul hC.1.1 hC.1.2.1 hd kk) k0
theorem to_land {x y : Int} (hd : decode E.1 pc = .ok (.land, 1)) (k0 : ∀ y : Int, To l E (pc + 1, L, .inr (.inl y) :: st, h, k, z) F) : To l E (pc, L, .inr (.inl y) :: .inr (.inl x) :: st, h, k, z) F :=
  to_someL (Int64.ofInt x &&& Int64.ofInt y) (fun g HB p e R s m args below meth c Q H locs ls hC hl kk => lv_land hC.1.1 hC.1.2.1 hd kk) k0
theorem to_lor {x y : Int} (hd : decode E.1 pc = .ok (.lor, 1)) (k0 : ∀ y : Int, To l E (pc + 1, L, .inr (.inl y) :: st, h, k, z) F) : To l E (pc, L, .inr (.inl y) :: .inr (.inl x) :: st, h, k, z) F :=
  to_someL (Int64.ofInt x ||| Int64.ofInt y) (fun g HB p e R s m args below meth c Q H locs ls hC hl kk => lv_lor hC.1.1 hC.1.2.1 hd kk) k0
theorem to_lxor {x y : Int} (hd : decode E.1 pc = .ok (.lxor, 1)) (k0 : ∀ y : Int, To l E (pc + 1, L, .inr (.inl y) :: st, h, k, z) F) : To l E (pc, L, .inr (.inl y) :: .inr (.inl x) :: st, h, k, z) F :=
  to_someL (Int64.ofInt x ^^^ Int64.ofInt y) (fun g HB p e R s m args below meth c Q H locs ls hC hl kk => lv_lxor hC.1.1 hC.1.2.1 hd kk) k0
theorem to_lshl {x y : Int} (hd : decode E.1 pc = .ok (.lshl, 1)) (k0 : ∀ y : Int, To l E (pc + 1, L, .inr (.inl y) :: st, h, k, z) F) : To l E (pc, L, .inl y :: .inr (.inl x) :: st, h, k, z) F :=
  to_someL (Int64.ofInt x <<< ((Int32.ofInt y).toInt64 &&& 63)) (fun g HB p e R s m args below meth c Q H locs ls hC hl kk => lv_lshl hC.1.1 hC.1.2.1 hd rfl kk) k0
theorem to_lshr {x y : Int} (hd : decode E.1 pc = .ok (.lshr, 1)) (k0 : ∀ y : Int, To l E (pc + 1, L, .inr (.inl y) :: st, h, k, z) F) : To l E (pc, L, .inl y :: .inr (.inl x) :: st, h, k, z) F :=
  to_someL (Int64.ofInt x >>> ((Int32.ofInt y).toInt64 &&& 63)) (fun g HB p e R s m args below meth c Q H locs ls hC hl kk => lv_lshr hC.1.1 hC.1.2.1 hd rfl kk) k0
theorem to_i2l {x : Int} (hd : decode E.1 pc = .ok (.i2l, 1)) (k0 : ∀ y : Int, To l E (pc + 1, L, .inr (.inl y) :: st, h, k, z) F) : To l E (pc, L, .inl x :: st, h, k, z) F :=
  to_someL ((Int32.ofInt x).toInt64) (fun g HB p e R s m args below meth c Q H locs ls hC hl kk => lv_i2l hC.1.1 hC.1.2.1 hd rfl kk) k0
theorem to_l2i {x : Int} (hd : decode E.1 pc = .ok (.l2i, 1)) (k0 : ∀ y : Int, I32 y → To l E (pc + 1, L, .inl y :: st, h, k, z) F) : To l E (pc, L, .inr (.inl x) :: st, h, k, z) F :=
  to_someI (P := fun _ => True) ((Int64.ofInt x).toInt32) trivial (fun g HB p e R s m args below meth c Q H locs ls hC hl kk => lv_l2i hC.1.1 hC.1.2.1 hd rfl kk) (fun y hy _ => k0 y hy)
theorem to_lcmp {x y : Int} (hd : decode E.1 pc = .ok (.lcmp, 1)) (k0 : ∀ y : Int, I32 y → To l E (pc + 1, L, .inl y :: st, h, k, z) F) : To l E (pc, L, .inr (.inl y) :: .inr (.inl x) :: st, h, k, z) F :=
  to_someI (P := fun _ => True) (lg_cmp (Int64.ofInt x) (Int64.ofInt y)) trivial (fun g HB p e R s m args below meth c Q H locs ls hC hl kk => W.lcmp hC.1.1 hC.1.2.1 hd kk) (fun y hy _ => k0 y hy)
theorem to_dup {a : V} (hd : decode E.1 pc = .ok (.dup, 1)) (ha : ct a = 1) (k0 : To l E (pc + 1, L, a :: a :: st, h, k, z) F) : To l E (pc, L, a :: st, h, k, z) F :=
  to_of (sx_pure (fun g HB p e R s m args below meth c Q H locs ls hC hl kk => lv_dup hC.1.1 hC.1.2.1 hd (by rw [dv_cat]; exact ha) (kk ls hl))) k0
theorem to_pop {a : V} (hd : decode E.1 pc = .ok (.pop, 1)) (ha : ct a = 1) (k0 : To l E (pc + 1, L, st, h, k, z) F) : To l E (pc, L, a :: st, h, k, z) F :=
  to_of (sx_pure (fun g HB p e R s m args below meth c Q H locs ls hC hl kk => lv_pop hC.1.1 hC.1.2.1 hd (by rw [dv_cat]; exact ha) (kk ls hl))) k0
theorem to_dup_x1 {a b : V} (hd : decode E.1 pc = .ok (.dup_x1, 1)) (ha : ct a = 1) (hb : ct b = 1) (k0 : To l E (pc + 1, L, a :: b :: a :: st, h, k, z) F) : To l E (pc, L, a :: b :: st, h, k, z) F :=
  to_of (sx_pure (fun g HB p e R s m args below meth c Q H locs ls hC hl kk => lv_dup_x1 hC.1.1 hC.1.2.1 hd (by rw [dv_cat]; exact ha) (by rw [dv_cat]; exact hb) (kk ls hl))) k0
theorem to_dup2 {a b : V} (hd : decode E.1 pc = .ok (.dup2, 1)) (ha : ct a = 1) (hb : ct b = 1) (k0 : To l E (pc + 1, L, a :: b :: a :: b :: st, h, k, z) F) : To l E (pc, L, a :: b :: st, h, k, z) F :=
  to_of (sx_pure (fun g HB p e R s m args below meth c Q H locs ls hC hl kk => lv_dup2_11 hC.1.1 hC.1.2.1 hd (by rw [dv_cat]; exact ha) (by rw [dv_cat]; exact hb) (kk ls hl))) k0
theorem to_goto {off : Int} {t : Nat} (hd : decode E.1 pc = .ok (.goto off, 3)) (ht : (pc : Int) + off = (t : Int)) (k0 : To l E (t, L, st, h, k, z) F) : To l E (pc, L, st, h, k, z) F :=
  to_of (sx_pure (fun g HB p e R s m args below meth c Q H locs ls hC hl kk => lv_goto hC.1.1 hC.1.2.1 hd ht (kk ls hl))) k0
theorem to_ieq {x y off : Int} (t : Nat) (hd : decode E.1 pc = .ok (.if_icmp .eq off, 3)) (ht : (pc : Int) + off = (t : Int)) (hx : I32 x) (hy : I32 y) (kt : x = y → To l E (t, L, st, h, k, z) F) (kf : x ≠ y → To l E (pc + 3, L, st, h, k, z) F) : To l E (pc, L, .inl y :: .inl x :: st, h, k, z) F := by
  by_cases hc : x = y
  · exact to_of (sx_pure (fun g HB p e R s m args below meth c Q H locs ls hC hl kk => lv_icmp_eq hC.1.1 hC.1.2.1 hd ht (fun _ => kk ls hl) (fun h9 => absurd ((eq_of hx hy).mpr hc) h9))) (kt hc)
  · exact to_of (sx_pure (fun g HB p e R s m args below meth c Q H locs ls hC hl kk => lv_icmp_eq hC.1.1 hC.1.2.1 hd ht (fun h9 => absurd ((eq_of hx hy).mp h9) hc) (fun _ => kk ls hl))) (kf (by omega))
theorem to_ifeq {x off : Int} (t : Nat) (hd : decode E.1 pc = .ok (.ifCond .eq off, 3)) (ht : (pc : Int) + off = (t : Int)) (hx : I32 x) (kt : x = 0 → To l E (t, L, st, h, k, z) F) (kf : x ≠ 0 → To l E (pc + 3, L, st, h, k, z) F) : To l E (pc, L, .inl x :: st, h, k, z) F := by
  by_cases hc : x = 0
  · exact to_of (sx_pure (fun g HB p e R s m args below meth c Q H locs ls hC hl kk => lv_if_eq hC.1.1 hC.1.2.1 hd ht (fun _ => kk ls hl) (fun h9 => absurd ((eq_of hx (by omega : I32 0)).mpr hc) h9))) (kt hc)
  · exact to_of (sx_pure (fun g HB p e R s m args below meth c Q H locs ls hC hl kk => lv_if_eq hC.1.1 hC.1.2.1 hd ht (fun h9 => absurd ((eq_of hx (by omega : I32 0)).mp h9) hc) (fun _ => kk ls hl))) (kf (by omega))
theorem to_ine {x y off : Int} (t : Nat) (hd : decode E.1 pc = .ok (.if_icmp .ne off, 3)) (ht : (pc : Int) + off = (t : Int)) (hx : I32 x) (hy : I32 y) (kt : x ≠ y → To l E (t, L, st, h, k, z) F) (kf : x = y → To l E (pc + 3, L, st, h, k, z) F) : To l E (pc, L, .inl y :: .inl x :: st, h, k, z) F := by
  by_cases hc : x ≠ y
  · exact to_of (sx_pure (fun g HB p e R s m args below meth c Q H locs ls hC hl kk => lv_icmp_ne hC.1.1 hC.1.2.1 hd ht (fun _ => kk ls hl) (fun h9 => absurd h9 ((not_congr (eq_of hx hy)).mpr hc)))) (kt hc)
  · exact to_of (sx_pure (fun g HB p e R s m args below meth c Q H locs ls hC hl kk => lv_icmp_ne hC.1.1 hC.1.2.1 hd ht (fun h9 => absurd ((not_congr (eq_of hx hy)).mp h9) hc) (fun _ => kk ls hl))) (kf (by omega))
theorem to_ifne {x off : Int} (t : Nat) (hd : decode E.1 pc = .ok (.ifCond .ne off, 3)) (ht : (pc : Int) + off = (t : Int)) (hx : I32 x) (kt : x ≠ 0 → To l E (t, L, st, h, k, z) F) (kf : x = 0 → To l E (pc + 3, L, st, h, k, z) F) : To l E (pc, L, .inl x :: st, h, k, z) F := by
  by_cases hc : x ≠ 0
  · exact to_of (sx_pure (fun g HB p e R s m args below meth c Q H locs ls hC hl kk => lv_if_ne hC.1.1 hC.1.2.1 hd ht (fun _ => kk ls hl) (fun h9 => absurd h9 ((not_congr (eq_of hx (by omega : I32 0))).mpr hc)))) (kt hc)
  · exact to_of (sx_pure (fun g HB p e R s m args below meth c Q H locs ls hC hl kk => lv_if_ne hC.1.1 hC.1.2.1 hd ht (fun h9 => absurd ((not_congr (eq_of hx (by omega : I32 0))).mp h9) hc) (fun _ => kk ls hl))) (kf (by omega))
theorem to_ilt {x y off : Int} (t : Nat) (hd : decode E.1 pc = .ok (.if_icmp .lt off, 3)) (ht : (pc : Int) + off = (t : Int)) (hx : I32 x) (hy : I32 y) (kt : x < y → To l E (t, L, st, h, k, z) F) (kf : y ≤ x → To l E (pc + 3, L, st, h, k, z) F) : To l E (pc, L, .inl y :: .inl x :: st, h, k, z) F := by
  by_cases hc : x < y
  · exact to_of (sx_pure (fun g HB p e R s m args below meth c Q H locs ls hC hl kk => lv_icmp_lt hC.1.1 hC.1.2.1 hd ht (fun _ => kk ls hl) (fun h9 => absurd ((lt_of hx hy).mpr hc) h9))) (kt hc)
  · exact to_of (sx_pure (fun g HB p e R s m args below meth c Q H locs ls hC hl kk => lv_icmp_lt hC.1.1 hC.1.2.1 hd ht (fun h9 => absurd ((lt_of hx hy).mp h9) hc) (fun _ => kk ls hl))) (kf (by omega))
theorem to_iflt {x off : Int} (t : Nat) (hd : decode E.1 pc = .ok (.ifCond .lt off, 3)) (ht : (pc : Int) + off = (t : Int)) (hx : I32 x) (kt : x < 0 → To l E (t, L, st, h, k, z) F) (kf : 0 ≤ x → To l E (pc + 3, L, st, h, k, z) F) : To l E (pc, L, .inl x :: st, h, k, z) F := by
  by_cases hc : x < 0
  · exact to_of (sx_pure (fun g HB p e R s m args below meth c Q H locs ls hC hl kk => lv_if_lt hC.1.1 hC.1.2.1 hd ht (fun _ => kk ls hl) (fun h9 => absurd ((lt_of hx (by omega : I32 0)).mpr hc) h9))) (kt hc)
  · exact to_of (sx_pure (fun g HB p e R s m args below meth c Q H locs ls hC hl kk => lv_if_lt hC.1.1 hC.1.2.1 hd ht (fun h9 => absurd ((lt_of hx (by omega : I32 0)).mp h9) hc) (fun _ => kk ls hl))) (kf (by omega))
theorem to_ige {x y off : Int} (t : Nat) (hd : decode E.1 pc = .ok (.if_icmp .ge off, 3)) (ht : (pc : Int) + off = (t : Int)) (hx : I32 x) (hy : I32 y) (kt : y ≤ x → To l E (t, L, st, h, k, z) F) (kf : x < y → To l E (pc + 3, L, st, h, k, z) F) : To l E (pc, L, .inl y :: .inl x :: st, h, k, z) F := by
  by_cases hc : y ≤ x
  · exact to_of (sx_pure (fun g HB p e R s m args below meth c Q H locs ls hC hl kk => lv_icmp_ge hC.1.1 hC.1.2.1 hd ht (fun _ => kk ls hl) (fun h9 => absurd ((le_of hy hx).mpr hc) h9))) (kt hc)
  · exact to_of (sx_pure (fun g HB p e R s m args below meth c Q H locs ls hC hl kk => lv_icmp_ge hC.1.1 hC.1.2.1 hd ht (fun h9 => absurd ((le_of hy hx).mp h9) hc) (fun _ => kk ls hl))) (kf (by omega))
theorem to_ifge {x off : Int} (t : Nat) (hd : decode E.1 pc = .ok (.ifCond .ge off, 3)) (ht : (pc : Int) + off = (t : Int)) (hx : I32 x) (kt : 0 ≤ x → To l E (t, L, st, h, k, z) F) (kf : x < 0 → To l E (pc + 3, L, st, h, k, z) F) : To l E (pc, L, .inl x :: st, h, k, z) F := by
  by_cases hc : 0 ≤ x
  · exact to_of (sx_pure (fun g HB p e R s m args below meth c Q H locs ls hC hl kk => lv_if_ge hC.1.1 hC.1.2.1 hd ht (fun _ => kk ls hl) (fun h9 => absurd ((le_of (by omega : I32 0) hx).mpr hc) h9))) (kt hc)
  · exact to_of (sx_pure (fun g HB p e R s m args below meth c Q H locs ls hC hl kk => lv_if_ge hC.1.1 hC.1.2.1 hd ht (fun h9 => absurd ((le_of (by omega : I32 0) hx).mp h9) hc) (fun _ => kk ls hl))) (kf (by omega))
theorem to_igt {x y off : Int} (t : Nat) (hd : decode E.1 pc = .ok (.if_icmp .gt off, 3)) (ht : (pc : Int) + off = (t : Int)) (hx : I32 x) (hy : I32 y) (kt : y < x → To l E (t, L, st, h, k, z) F) (kf : x ≤ y → To l E (pc + 3, L, st, h, k, z) F) : To l E (pc, L, .inl y :: .inl x :: st, h, k, z) F := by
  by_cases hc : y < x
  · exact to_of (sx_pure (fun g HB p e R s m args below meth c Q H locs ls hC hl kk => lv_icmp_gt hC.1.1 hC.1.2.1 hd ht (fun _ => kk ls hl) (fun h9 => absurd ((lt_of hy hx).mpr hc) h9))) (kt hc)
  · exact to_of (sx_pure (fun g HB p e R s m args below meth c Q H locs ls hC hl kk => lv_icmp_gt hC.1.1 hC.1.2.1 hd ht (fun h9 => absurd ((lt_of hy hx).mp h9) hc) (fun _ => kk ls hl))) (kf (by omega))
theorem to_ifgt {x off : Int} (t : Nat) (hd : decode E.1 pc = .ok (.ifCond .gt off, 3)) (ht : (pc : Int) + off = (t : Int)) (hx : I32 x) (kt : 0 < x → To l E (t, L, st, h, k, z) F) (kf : x ≤ 0 → To l E (pc + 3, L, st, h, k, z) F) : To l E (pc, L, .inl x :: st, h, k, z) F := by
  by_cases hc : 0 < x
  · exact to_of (sx_pure (fun g HB p e R s m args below meth c Q H locs ls hC hl kk => lv_if_gt hC.1.1 hC.1.2.1 hd ht (fun _ => kk ls hl) (fun h9 => absurd ((lt_of (by omega : I32 0) hx).mpr hc) h9))) (kt hc)
  · exact to_of (sx_pure (fun g HB p e R s m args below meth c Q H locs ls hC hl kk => lv_if_gt hC.1.1 hC.1.2.1 hd ht (fun h9 => absurd ((lt_of (by omega : I32 0) hx).mp h9) hc) (fun _ => kk ls hl))) (kf (by omega))
theorem to_ile {x y off : Int} (t : Nat) (hd : decode E.1 pc = .ok (.if_icmp .le off, 3)) (ht : (pc : Int) + off = (t : Int)) (hx : I32 x) (hy : I32 y) (kt : x ≤ y → To l E (t, L, st, h, k, z) F) (kf : y < x → To l E (pc + 3, L, st, h, k, z) F) : To l E (pc, L, .inl y :: .inl x :: st, h, k, z) F := by
  by_cases hc : x ≤ y
  · exact to_of (sx_pure (fun g HB p e R s m args below meth c Q H locs ls hC hl kk => lv_icmp_le hC.1.1 hC.1.2.1 hd ht (fun _ => kk ls hl) (fun h9 => absurd ((le_of hx hy).mpr hc) h9))) (kt hc)
  · exact to_of (sx_pure (fun g HB p e R s m args below meth c Q H locs ls hC hl kk => lv_icmp_le hC.1.1 hC.1.2.1 hd ht (fun h9 => absurd ((le_of hx hy).mp h9) hc) (fun _ => kk ls hl))) (kf (by omega))
theorem to_ifle {x off : Int} (t : Nat) (hd : decode E.1 pc = .ok (.ifCond .le off, 3)) (ht : (pc : Int) + off = (t : Int)) (hx : I32 x) (kt : x ≤ 0 → To l E (t, L, st, h, k, z) F) (kf : 0 < x → To l E (pc + 3, L, st, h, k, z) F) : To l E (pc, L, .inl x :: st, h, k, z) F := by
  by_cases hc : x ≤ 0
  · exact to_of (sx_pure (fun g HB p e R s m args below meth c Q H locs ls hC hl kk => lv_if_le hC.1.1 hC.1.2.1 hd ht (fun _ => kk ls hl) (fun h9 => absurd ((le_of hx (by omega : I32 0)).mpr hc) h9))) (kt hc)
  · exact to_of (sx_pure (fun g HB p e R s m args below meth c Q H locs ls hC hl kk => lv_if_le hC.1.1 hC.1.2.1 hd ht (fun h9 => absurd ((le_of hx (by omega : I32 0)).mp h9) hc) (fun _ => kk ls hl))) (kf (by omega))
theorem to_ifnull {x : Nat} {off : Int} (t : Nat) (hd : decode E.1 pc = .ok (.ifnull off, 3)) (ht : (pc : Int) + off = (t : Int)) (kt : x = 0 → To l E (t, L, st, h, k, z) F) (kf : 0 < x → To l E (pc + 3, L, st, h, k, z) F) : To l E (pc, L, .inr (.inr x) :: st, h, k, z) F := by
  cases x with
  | zero => exact to_of (sx_pure (fun g HB p e R s m args below meth c Q H locs ls hC hl kk => lv_ifnullN hC.1.1 hC.1.2.1 hd ht (kk ls hl))) (kt rfl)
  | succ y => exact to_of (sx_pure (fun g HB p e R s m args below meth c Q H locs ls hC hl kk => lv_ifnull hC.1.1 hC.1.2.1 hd (kk ls hl))) (kf (Nat.succ_pos _))
theorem to_ifnonnull {x : Nat} {off : Int} (t : Nat) (hd : decode E.1 pc = .ok (.ifnonnull off, 3)) (ht : (pc : Int) + off = (t : Int)) (kt : 0 < x → To l E (t, L, st, h, k, z) F) (kf : x = 0 → To l E (pc + 3, L, st, h, k, z) F) : To l E (pc, L, .inr (.inr x) :: st, h, k, z) F := by
  cases x with
  | zero => exact to_of (sx_pure (fun g HB p e R s m args below meth c Q H locs ls hC hl kk => lv_ifnonnullN hC.1.1 hC.1.2.1 hd (kk ls hl))) (kf rfl)
  | succ y => exact to_of (sx_pure (fun g HB p e R s m args below meth c Q H locs ls hC hl kk => lv_ifnonnull hC.1.1 hC.1.2.1 hd ht (kk ls hl))) (kt (Nat.succ_pos _))
end TO
