/-! Texts, and further steps. -/
section TOS
variable {l : Launch} {E : ME} {pc : Nat} {L : LL} {st : List V} {h : Hp} {k z : Nat} {F : Option V → Hp → Nat → Nat → Prop}
theorem to_ishr0 {x : Int} (hd : decode E.1 pc = .ok (.ishr, 1)) (k0 : To l E (pc + 1, L, .inl x :: st, h, k, z) F) : To l E (pc, L, .inl 0 :: .inl x :: st, h, k, z) F :=
  to_of (sx_pure fun g HB p e R s m args below meth c Q H locs ls hC hl kk => lv_ishr hC.1.1 hC.1.2.1 hd (by
    have e : Int32.ofInt x >>> (Int32.ofInt 0 &&& 31) = Int32.ofInt x := by
      rw [show (Int32.ofInt 0 &&& 31) = 0 by decide]
      exact Int32.shiftRight_zero
    rw [e]
    exact kk ls hl)) k0
theorem to_i2cv {x : Int} (hx : 0 ≤ x ∧ x < 65536) (hd : decode E.1 pc = .ok (.i2c, 1)) (k0 : To l E (pc + 1, L, .inl x :: st, h, k, z) F) : To l E (pc, L, .inl x :: st, h, k, z) F :=
  to_of (sx_pure fun g HB p e R s m args below meth c Q H locs ls hC hl kk => lv_i2c hC.1.1 hC.1.2.1 hd (v := Int32.ofInt x) (by
    have h1 : (Int32.ofInt x).toBitVec.toNat = x.toNat := by
      show (BitVec.ofInt 32 x).toNat = x.toNat
      rw [BitVec.toNat_ofInt]
      have h2 : x % ((2 ^ 32 : Nat) : Int) = x := Int.emod_eq_of_lt (by omega) (by omega)
      rw [h2]
    apply Int32.toBitVec_inj.mp
    apply BitVec.eq_of_toNat_eq
    show ((Int32.ofInt x).toUInt32 % 65536).toBitVec.toNat = _
    rw [UInt32.toBitVec_mod, BitVec.toNat_umod]
    show (Int32.ofInt x).toBitVec.toNat % 65536 = _
    omega) (kk ls hl)) k0
/-- the texts and how long they are -/
def strL : List (Nat × Nat) := [(1000101, 25), (1000103, 24), (1000105, 12), (1000107, 19), (1000109, 14), (1000111, 8), (1000113, 11), (1000115, 2), (1000117, 36), (1000119, 4), (1000121, 2), (1000123, 7), (1000125, 4), (1000127, 10), (1000129, 10), (1000131, 11), (1000133, 12), (1000135, 25), (1000137, 2), (1000139, 3), (1000141, 3), (1000143, 2), (1000145, 5), (1000147, 3), (1000149, 8), (1000151, 5), (1000153, 4), (1000155, 3), (1000157, 7), (1000159, 5), (1000161, 10), (1000163, 10), (1000165, 16), (1000167, 6), (1000169, 2), (1000171, 9)]
theorem strX {t n : Nat} (hs : (t, n) ∈ strL) : ∃ (q : Nat) (cs : List Int), t = 1000000 + q ∧ (q, "java/lang/String", "value", "[B", (.inr (.inr (1000000 + (q + 1))) : Int ⊕ Int ⊕ Nat)) ∈ xOF ∧ (q, "java/lang/String", "coder", "B", (.inl 0 : Int ⊕ Int ⊕ Nat)) ∈ xOF ∧ (q, "java/lang/String") ∈ xO ∧ (q + 1, FieldType.byte, n, cs) ∈ xT ∧ n ≤ 100 ∧ (∀ c ∈ cs, 0 ≤ c ∧ c ≤ 127) := by
  simp only [strL, List.mem_cons, List.not_mem_nil, or_false] at hs
  rcases hs with hs | hs | hs | hs | hs | hs | hs | hs | hs | hs | hs | hs | hs | hs | hs | hs | hs | hs | hs | hs | hs | hs | hs | hs | hs | hs | hs | hs | hs | hs | hs | hs | hs | hs | hs | hs
  · cases hs; exact ⟨101, [110, 111, 32, 109, 111, 114, 101, 32, 109, 101, 115, 115, 97, 103, 101, 115, 32, 99, 97, 110, 32, 99, 111, 109, 101], rfl, List.mem_of_getElem? (i := 0) rfl, List.mem_of_getElem? (i := 1) rfl, List.mem_of_getElem? (i := 0) rfl, List.mem_of_getElem? (i := 1) rfl, by decide, by decide⟩
  · cases hs; exact ⟨103, [116, 104, 101, 32, 109, 101, 115, 115, 97, 103, 101, 32, 105, 115, 32, 110, 111, 116, 32, 116, 104, 101, 114, 101], rfl, List.mem_of_getElem? (i := 2) rfl, List.mem_of_getElem? (i := 3) rfl, List.mem_of_getElem? (i := 1) rfl, List.mem_of_getElem? (i := 2) rfl, by decide, by decide⟩
  · cases hs; exact ⟨105, [105, 116, 32, 105, 115, 32, 110, 111, 32, 116, 97, 103], rfl, List.mem_of_getElem? (i := 4) rfl, List.mem_of_getElem? (i := 5) rfl, List.mem_of_getElem? (i := 2) rfl, List.mem_of_getElem? (i := 3) rfl, by decide, by decide⟩
  · cases hs; exact ⟨107, [105, 116, 32, 104, 97, 115, 32, 101, 105, 103, 104, 116, 32, 111, 116, 104, 101, 114, 115], rfl, List.mem_of_getElem? (i := 6) rfl, List.mem_of_getElem? (i := 7) rfl, List.mem_of_getElem? (i := 3) rfl, List.mem_of_getElem? (i := 4) rfl, by decide, by decide⟩
  · cases hs; exact ⟨109, [105, 116, 32, 105, 115, 32, 110, 111, 32, 113, 117, 101, 114, 121], rfl, List.mem_of_getElem? (i := 8) rfl, List.mem_of_getElem? (i := 9) rfl, List.mem_of_getElem? (i := 4) rfl, List.mem_of_getElem? (i := 5) rfl, by decide, by decide⟩
  · cases hs; exact ⟨111, [61, 63, 117, 116, 102, 45, 56, 63], rfl, List.mem_of_getElem? (i := 10) rfl, List.mem_of_getElem? (i := 11) rfl, List.mem_of_getElem? (i := 5) rfl, List.mem_of_getElem? (i := 6) rfl, by decide, by decide⟩
  · cases hs; exact ⟨113, [61, 63, 117, 115, 45, 97, 115, 99, 105, 105, 63], rfl, List.mem_of_getElem? (i := 12) rfl, List.mem_of_getElem? (i := 13) rfl, List.mem_of_getElem? (i := 6) rfl, List.mem_of_getElem? (i := 7) rfl, by decide, by decide⟩
  · cases hs; exact ⟨115, [63, 61], rfl, List.mem_of_getElem? (i := 14) rfl, List.mem_of_getElem? (i := 15) rfl, List.mem_of_getElem? (i := 7) rfl, List.mem_of_getElem? (i := 8) rfl, by decide, by decide⟩
  · cases hs; exact ⟨117, [106, 97, 110, 102, 101, 98, 109, 97, 114, 97, 112, 114, 109, 97, 121, 106, 117, 110, 106, 117, 108, 97, 117, 103, 115, 101, 112, 111, 99, 116, 110, 111, 118, 100, 101, 99], rfl, List.mem_of_getElem? (i := 16) rfl, List.mem_of_getElem? (i := 17) rfl, List.mem_of_getElem? (i := 8) rfl, List.mem_of_getElem? (i := 9) rfl, by decide, by decide⟩
  · cases hs; exact ⟨119, [102, 114, 111, 109], rfl, List.mem_of_getElem? (i := 18) rfl, List.mem_of_getElem? (i := 19) rfl, List.mem_of_getElem? (i := 9) rfl, List.mem_of_getElem? (i := 10) rfl, by decide, by decide⟩
  · cases hs; exact ⟨121, [116, 111], rfl, List.mem_of_getElem? (i := 20) rfl, List.mem_of_getElem? (i := 21) rfl, List.mem_of_getElem? (i := 10) rfl, List.mem_of_getElem? (i := 11) rfl, by decide, by decide⟩
  · cases hs; exact ⟨123, [115, 117, 98, 106, 101, 99, 116], rfl, List.mem_of_getElem? (i := 22) rfl, List.mem_of_getElem? (i := 23) rfl, List.mem_of_getElem? (i := 11) rfl, List.mem_of_getElem? (i := 12) rfl, by decide, by decide⟩
  · cases hs; exact ⟨125, [100, 97, 116, 101], rfl, List.mem_of_getElem? (i := 24) rfl, List.mem_of_getElem? (i := 25) rfl, List.mem_of_getElem? (i := 12) rfl, List.mem_of_getElem? (i := 13) rfl, by decide, by decide⟩
  · cases hs; exact ⟨127, [109, 101, 115, 115, 97, 103, 101, 45, 105, 100], rfl, List.mem_of_getElem? (i := 26) rfl, List.mem_of_getElem? (i := 27) rfl, List.mem_of_getElem? (i := 13) rfl, List.mem_of_getElem? (i := 14) rfl, by decide, by decide⟩
  · cases hs; exact ⟨129, [114, 101, 102, 101, 114, 101, 110, 99, 101, 115], rfl, List.mem_of_getElem? (i := 28) rfl, List.mem_of_getElem? (i := 29) rfl, List.mem_of_getElem? (i := 14) rfl, List.mem_of_getElem? (i := 15) rfl, by decide, by decide⟩
  · cases hs; exact ⟨131, [105, 110, 45, 114, 101, 112, 108, 121, 45, 116, 111], rfl, List.mem_of_getElem? (i := 30) rfl, List.mem_of_getElem? (i := 31) rfl, List.mem_of_getElem? (i := 15) rfl, List.mem_of_getElem? (i := 16) rfl, by decide, by decide⟩
  · cases hs; exact ⟨133, [99, 111, 110, 116, 101, 110, 116, 45, 116, 121, 112, 101], rfl, List.mem_of_getElem? (i := 32) rfl, List.mem_of_getElem? (i := 33) rfl, List.mem_of_getElem? (i := 16) rfl, List.mem_of_getElem? (i := 17) rfl, by decide, by decide⟩
  · cases hs; exact ⟨135, [99, 111, 110, 116, 101, 110, 116, 45, 116, 114, 97, 110, 115, 102, 101, 114, 45, 101, 110, 99, 111, 100, 105, 110, 103], rfl, List.mem_of_getElem? (i := 34) rfl, List.mem_of_getElem? (i := 35) rfl, List.mem_of_getElem? (i := 17) rfl, List.mem_of_getElem? (i := 18) rfl, by decide, by decide⟩
  · cases hs; exact ⟨137, [111, 114], rfl, List.mem_of_getElem? (i := 36) rfl, List.mem_of_getElem? (i := 37) rfl, List.mem_of_getElem? (i := 18) rfl, List.mem_of_getElem? (i := 19) rfl, by decide, by decide⟩
  · cases hs; exact ⟨139, [97, 110, 100], rfl, List.mem_of_getElem? (i := 38) rfl, List.mem_of_getElem? (i := 39) rfl, List.mem_of_getElem? (i := 19) rfl, List.mem_of_getElem? (i := 20) rfl, by decide, by decide⟩
  · cases hs; exact ⟨141, [110, 111, 116], rfl, List.mem_of_getElem? (i := 40) rfl, List.mem_of_getElem? (i := 41) rfl, List.mem_of_getElem? (i := 20) rfl, List.mem_of_getElem? (i := 21) rfl, by decide, by decide⟩
  · cases hs; exact ⟨143, [46, 46], rfl, List.mem_of_getElem? (i := 42) rfl, List.mem_of_getElem? (i := 43) rfl, List.mem_of_getElem? (i := 21) rfl, List.mem_of_getElem? (i := 22) rfl, by decide, by decide⟩
  · cases hs; exact ⟨145, [102, 114, 111, 109, 58], rfl, List.mem_of_getElem? (i := 44) rfl, List.mem_of_getElem? (i := 45) rfl, List.mem_of_getElem? (i := 22) rfl, List.mem_of_getElem? (i := 23) rfl, by decide, by decide⟩
  · cases hs; exact ⟨147, [116, 111, 58], rfl, List.mem_of_getElem? (i := 46) rfl, List.mem_of_getElem? (i := 47) rfl, List.mem_of_getElem? (i := 23) rfl, List.mem_of_getElem? (i := 24) rfl, by decide, by decide⟩
  · cases hs; exact ⟨149, [115, 117, 98, 106, 101, 99, 116, 58], rfl, List.mem_of_getElem? (i := 48) rfl, List.mem_of_getElem? (i := 49) rfl, List.mem_of_getElem? (i := 24) rfl, List.mem_of_getElem? (i := 25) rfl, by decide, by decide⟩
  · cases hs; exact ⟨151, [98, 111, 100, 121, 58], rfl, List.mem_of_getElem? (i := 50) rfl, List.mem_of_getElem? (i := 51) rfl, List.mem_of_getElem? (i := 25) rfl, List.mem_of_getElem? (i := 26) rfl, by decide, by decide⟩
  · cases hs; exact ⟨153, [116, 97, 103, 58], rfl, List.mem_of_getElem? (i := 52) rfl, List.mem_of_getElem? (i := 53) rfl, List.mem_of_getElem? (i := 26) rfl, List.mem_of_getElem? (i := 27) rfl, by decide, by decide⟩
  · cases hs; exact ⟨155, [105, 100, 58], rfl, List.mem_of_getElem? (i := 54) rfl, List.mem_of_getElem? (i := 55) rfl, List.mem_of_getElem? (i := 27) rfl, List.mem_of_getElem? (i := 28) rfl, by decide, by decide⟩
  · cases hs; exact ⟨157, [116, 104, 114, 101, 97, 100, 58], rfl, List.mem_of_getElem? (i := 56) rfl, List.mem_of_getElem? (i := 57) rfl, List.mem_of_getElem? (i := 28) rfl, List.mem_of_getElem? (i := 29) rfl, by decide, by decide⟩
  · cases hs; exact ⟨159, [100, 97, 116, 101, 58], rfl, List.mem_of_getElem? (i := 58) rfl, List.mem_of_getElem? (i := 59) rfl, List.mem_of_getElem? (i := 29) rfl, List.mem_of_getElem? (i := 30) rfl, by decide, by decide⟩
  · cases hs; exact ⟨161, [116, 101, 120, 116, 47, 112, 108, 97, 105, 110], rfl, List.mem_of_getElem? (i := 60) rfl, List.mem_of_getElem? (i := 61) rfl, List.mem_of_getElem? (i := 30) rfl, List.mem_of_getElem? (i := 31) rfl, by decide, by decide⟩
  · cases hs; exact ⟨163, [109, 117, 108, 116, 105, 112, 97, 114, 116, 47], rfl, List.mem_of_getElem? (i := 62) rfl, List.mem_of_getElem? (i := 63) rfl, List.mem_of_getElem? (i := 31) rfl, List.mem_of_getElem? (i := 32) rfl, by decide, by decide⟩
  · cases hs; exact ⟨165, [113, 117, 111, 116, 101, 100, 45, 112, 114, 105, 110, 116, 97, 98, 108, 101], rfl, List.mem_of_getElem? (i := 64) rfl, List.mem_of_getElem? (i := 65) rfl, List.mem_of_getElem? (i := 32) rfl, List.mem_of_getElem? (i := 33) rfl, by decide, by decide⟩
  · cases hs; exact ⟨167, [98, 97, 115, 101, 54, 52], rfl, List.mem_of_getElem? (i := 66) rfl, List.mem_of_getElem? (i := 67) rfl, List.mem_of_getElem? (i := 33) rfl, List.mem_of_getElem? (i := 34) rfl, by decide, by decide⟩
  · cases hs; exact ⟨169, [45, 45], rfl, List.mem_of_getElem? (i := 68) rfl, List.mem_of_getElem? (i := 69) rfl, List.mem_of_getElem? (i := 34) rfl, List.mem_of_getElem? (i := 35) rfl, by decide, by decide⟩
  · cases hs; exact ⟨171, [98, 111, 117, 110, 100, 97, 114, 121, 61], rfl, List.mem_of_getElem? (i := 70) rfl, List.mem_of_getElem? (i := 71) rfl, List.mem_of_getElem? (i := 35) rfl, List.mem_of_getElem? (i := 36) rfl, by decide, by decide⟩
def saL : List (Nat × Nat) := [(1000201, 12), (1000202, 8), (1000203, 6), (1000204, 8), (1000205, 10), (1000206, 40), (1000207, 9), (1000208, 36), (1000209, 10), (1000210, 85), (1000211, 16), (1000212, 10), (1000213, 5), (1000214, 3), (1000215, 3), (1000216, 2)]
theorem saX {t n : Nat} (hs : (t, n) ∈ saL) : ∃ (q : Nat) (cs : List Int), t = 1000000 + q ∧ (q, FieldType.int, n, cs) ∈ xT ∧ n ≤ 100 ∧ (∀ c ∈ cs, 0 ≤ c ∧ c ≤ 127) := by
  simp only [saL, List.mem_cons, List.not_mem_nil, or_false] at hs
  rcases hs with hs | hs | hs | hs | hs | hs | hs | hs | hs | hs | hs | hs | hs | hs | hs | hs
  · cases hs; exact ⟨201, [31, 28, 31, 30, 31, 30, 31, 31, 30, 31, 30, 31], rfl, List.mem_of_getElem? (i := 37) rfl, by decide, by decide⟩
  · cases hs; exact ⟨202, [117, 115, 45, 97, 115, 99, 105, 105], rfl, List.mem_of_getElem? (i := 38) rfl, by decide, by decide⟩
  · cases hs; exact ⟨203, [98, 97, 115, 101, 54, 52], rfl, List.mem_of_getElem? (i := 39) rfl, by decide, by decide⟩
  · cases hs; exact ⟨204, [98, 111, 117, 110, 100, 97, 114, 121], rfl, List.mem_of_getElem? (i := 40) rfl, by decide, by decide⟩
  · cases hs; exact ⟨205, [0, 4, 8, 10, 17, 29, 54, 64, 74, 85], rfl, List.mem_of_getElem? (i := 41) rfl, by decide, by decide⟩
  · cases hs; exact ⟨206, [102, 114, 111, 109, 58, 116, 111, 58, 115, 117, 98, 106, 101, 99, 116, 58, 98, 111, 100, 121, 58, 116, 97, 103, 58, 105, 100, 58, 116, 104, 114, 101, 97, 100, 58, 100, 97, 116, 101, 58], rfl, List.mem_of_getElem? (i := 42) rfl, by decide, by decide⟩
  · cases hs; exact ⟨207, [0, 5, 8, 16, 21, 25, 28, 35, 40], rfl, List.mem_of_getElem? (i := 43) rfl, by decide, by decide⟩
  · cases hs; exact ⟨208, [106, 97, 110, 102, 101, 98, 109, 97, 114, 97, 112, 114, 109, 97, 121, 106, 117, 110, 106, 117, 108, 97, 117, 103, 115, 101, 112, 111, 99, 116, 110, 111, 118, 100, 101, 99], rfl, List.mem_of_getElem? (i := 44) rfl, by decide, by decide⟩
  · cases hs; exact ⟨209, [109, 117, 108, 116, 105, 112, 97, 114, 116, 47], rfl, List.mem_of_getElem? (i := 45) rfl, by decide, by decide⟩
  · cases hs; exact ⟨210, [100, 97, 116, 101, 102, 114, 111, 109, 116, 111, 115, 117, 98, 106, 101, 99, 116, 99, 111, 110, 116, 101, 110, 116, 45, 116, 121, 112, 101, 99, 111, 110, 116, 101, 110, 116, 45, 116, 114, 97, 110, 115, 102, 101, 114, 45, 101, 110, 99, 111, 100, 105, 110, 103, 109, 101, 115, 115, 97, 103, 101, 45, 105, 100, 114, 101, 102, 101, 114, 101, 110, 99, 101, 115, 105, 110, 45, 114, 101, 112, 108, 121, 45, 116, 111], rfl, List.mem_of_getElem? (i := 46) rfl, by decide, by decide⟩
  · cases hs; exact ⟨211, [113, 117, 111, 116, 101, 100, 45, 112, 114, 105, 110, 116, 97, 98, 108, 101], rfl, List.mem_of_getElem? (i := 47) rfl, by decide, by decide⟩
  · cases hs; exact ⟨212, [116, 101, 120, 116, 47, 112, 108, 97, 105, 110], rfl, List.mem_of_getElem? (i := 48) rfl, by decide, by decide⟩
  · cases hs; exact ⟨213, [117, 116, 102, 45, 56], rfl, List.mem_of_getElem? (i := 49) rfl, by decide, by decide⟩
  · cases hs; exact ⟨214, [97, 110, 100], rfl, List.mem_of_getElem? (i := 50) rfl, by decide, by decide⟩
  · cases hs; exact ⟨215, [110, 111, 116], rfl, List.mem_of_getElem? (i := 51) rfl, by decide, by decide⟩
  · cases hs; exact ⟨216, [111, 114], rfl, List.mem_of_getElem? (i := 52) rfl, by decide, by decide⟩
theorem str_pos {t n : Nat} (hs : (t, n) ∈ strL) : 0 < t := by
  obtain ⟨q, cs, rfl, -⟩ := strX hs
  omega
theorem str_n {t n : Nat} (hs : (t, n) ∈ strL) : n ≤ 100 := by
  obtain ⟨q, cs, rfl, -, -, -, -, h1, -⟩ := strX hs
  exact h1
theorem recvS {t n : Nat} {as : List V} (hs : (t, n) ∈ strL) : Recv 2 h (.inr (.inr t) :: as) := by
  obtain ⟨q, cs, rfl, -, -, h3, -⟩ := strX hs
  exact ⟨q, as, rfl, h3⟩
theorem to_strVal {t n idx : Nat} (hs : (t, n) ∈ strL) (hlink : Cond.fieldLink E.2.2.1 idx "java/lang/String" "value" "[B" ∈ wsG) (hd : decode E.1 pc = .ok (.getfield idx, 3)) (k0 : To l E (pc + 3, L, .inr (.inr (t + 1)) :: st, h, k, z) F) : To l E (pc, L, .inr (.inr t) :: st, h, k, z) F := by
  obtain ⟨q, cs, rfl, h1, -⟩ := strX hs
  exact to_getX h1 hlink hd k0
theorem to_strCod {t n idx : Nat} (hs : (t, n) ∈ strL) (hlink : Cond.fieldLink E.2.2.1 idx "java/lang/String" "coder" "B" ∈ wsG) (hd : decode E.1 pc = .ok (.getfield idx, 3)) (k0 : To l E (pc + 3, L, .inl 0 :: st, h, k, z) F) : To l E (pc, L, .inr (.inr t) :: st, h, k, z) F := by
  obtain ⟨q, cs, rfl, -, h1, -⟩ := strX hs
  exact to_getX h1 hlink hd k0
theorem to_strLen {t n : Nat} (hs : (t, n) ∈ strL) (hd : decode E.1 pc = .ok (.arraylength, 1)) (k0 : To l E (pc + 1, L, .inl (n : Int) :: st, h, k, z) F) : To l E (pc, L, .inr (.inr (t + 1)) :: st, h, k, z) F := by
  obtain ⟨q, cs, rfl, -, -, -, h1, -⟩ := strX hs
  exact to_alenX (q := q + 1) h1 hd k0
theorem to_strByte {t n : Nat} {i : Int} (hs : (t, n) ∈ strL) (hd : decode E.1 pc = .ok (.baload, 1)) (hi : 0 ≤ i ∧ i < n) (k0 : ∀ y : Int, 0 ≤ y ∧ y ≤ 127 → To l E (pc + 1, L, .inl y :: st, h, k, z) F) : To l E (pc, L, .inl i :: .inr (.inr (t + 1)) :: st, h, k, z) F := by
  obtain ⟨q, cs, rfl, -, -, -, h1, h2, h3⟩ := strX hs
  refine to_baldX (q := q + 1) h1 hd (by omega) hi (k0 _ ?_)
  rw [List.getD_eq_getElem?_getD]
  cases hc : cs[i.toNat]? with
  | none => exact ⟨by decide, by decide⟩
  | some y => exact h3 y (List.mem_of_getElem? hc)
theorem to_ialdXr {q n : Nat} {cs : List Int} {i : Int} (lo hi : Int) (h1 : (q, .int, n, cs) ∈ xT) (hd : decode E.1 pc = .ok (.iaload, 1)) (hall : (lo ≤ 0 ∧ 0 ≤ hi) ∧ ∀ c ∈ cs, lo ≤ c ∧ c ≤ hi) (hn : n ≤ 2147483647) (hi' : 0 ≤ i ∧ i < n) (k0 : ∀ y : Int, lo ≤ y ∧ y ≤ hi → To l E (pc + 1, L, .inl y :: st, h, k, z) F) : To l E (pc, L, .inl i :: .inr (.inr (1000000 + q)) :: st, h, k, z) F := by
  refine to_ialdX h1 hd hn hi' (k0 _ ?_)
  rw [List.getD_eq_getElem?_getD]
  cases hc : cs[i.toNat]? with
  | none => exact hall.1
  | some y => exact hall.2 y (List.mem_of_getElem? hc)
theorem sa_pos {t n : Nat} (hs : (t, n) ∈ saL) : 0 < t := by
  obtain ⟨q, cs, rfl, -⟩ := saX hs
  omega
theorem sa_n {t n : Nat} (hs : (t, n) ∈ saL) : n ≤ 100 := by
  obtain ⟨q, cs, rfl, -, h1, -⟩ := saX hs
  exact h1
theorem to_saLen {t n : Nat} (hs : (t, n) ∈ saL) (hd : decode E.1 pc = .ok (.arraylength, 1)) (k0 : To l E (pc + 1, L, .inl (n : Int) :: st, h, k, z) F) : To l E (pc, L, .inr (.inr t) :: st, h, k, z) F := by
  obtain ⟨q, cs, rfl, h1, -⟩ := saX hs
  exact to_alenX h1 hd k0
theorem to_saInt {t n : Nat} {i : Int} (hs : (t, n) ∈ saL) (hd : decode E.1 pc = .ok (.iaload, 1)) (hi : 0 ≤ i ∧ i < n) (k0 : ∀ y : Int, 0 ≤ y ∧ y ≤ 127 → To l E (pc + 1, L, .inl y :: st, h, k, z) F) : To l E (pc, L, .inl i :: .inr (.inr t) :: st, h, k, z) F := by
  obtain ⟨q, cs, rfl, h1, h2, h3⟩ := saX hs
  exact to_ialdXr 0 127 h1 hd ⟨by decide, h3⟩ (by omega) hi k0
/-- a static that may be null goes straight into a call -/
theorem to_gstF {idx idx2 fr lo : Nat} {d : MD} {i n : Int} (hlink : Cond.fieldLink E.2.2.1 idx "jdk/internal/util/Preconditions" "SIOOBE_FORMATTER" "Ljava/util/function/BiFunction;" ∈ wsG) (hd1 : decode E.1 pc = .ok (.getstatic idx, 3)) (hco : CallOK E.2.2.1 (.invokestatic idx2) 0 d 3) (hd2 : decode E.1 (pc + 3) = .ok (.invokestatic idx2, 3))
    (E0 : Ct l d fr lo [.inl i, .inl n, .inr (.inr 0)] h (RI (fun x H => h = H ∧ x = i))) (E1 : Ct l d fr lo [.inl i, .inl n, .inr (.inr 1000050)] h (RI (fun x H => h = H ∧ x = i))) (hrm : rmOK E d fr lo st = true) (k0 : To l E (pc + 6, L, .inl i :: st, h, k, z) F) : To l E (pc, L, .inl n :: .inl i :: st, h, k, z) F := by
  obtain ⟨r0, h0, m0, s0, ⟨e1, e2, x0, e3, -, e5, e4⟩, v0⟩ := E0
  obtain ⟨r1, h1, m1, s1, ⟨f1, f2, x1, f3, -, f5, f4⟩, v1⟩ := E1
  subst e1 e2 e3 f1 f2 f3
  rw [e4, ← e5] at v0
  rw [f4, ← f5] at v1
  unfold rmOK at hrm
  rw [Bool.and_eq_true, Bool.and_eq_true] at hrm
  have r1 : fr + 1 ≤ E.2.2.2.2.2.1 := Nat.ble_eq.mp hrm.1
  have r2 : lo + (d.2.2.1 + 19) ≤ E.2.2.2.2.2.2 := Nat.ble_eq.mp hrm.2.1
  refine to_of ?_ k0
  refine ⟨⟨Nat.le_refl _, Nat.le_refl _⟩, fun g HB p e R s m args below meth c Q H locs ls hC hfr hlo hk hz hR hl kk => ?_⟩
  have hC2 := hC
  obtain ⟨⟨hx, hb, hml, hown, hts⟩, hA, -⟩ := hC
  obtain ⟨v, hv, cf, kf, fi, f, a, cell, g1, g2, g3, g4, g5, g6, g7, g8⟩ := hA.2.2.2.2.2.2.2.2.2.1
  have g8 : ¬ g.1 + 1 ≤ a := g8
  refine W.gets hx hb hown (hts _ hlink) g1 g2 g3 g4 (by rw [hR.2.1 a (by omega)]; exact g5) (fun e => by rw [e] at g6; cases g6) g7 rfl hd1 ?_
  have key : ∀ w : V, dv g w = v → Ev l d fr lo [.inl i, .inl n, w] h (some (.inl i)) h 0 0 → W p l e R s m args below meth c H locs k z Q (F0 m (pc + 3) ls ((w :: .inl n :: .inl i :: st).map (dv g))) := fun w hw hE =>
    hco p l e R s m args below meth c E.1 E.2.1 H locs k z Q g HB (pc + 3) fr lo 0 0 ls (w :: .inl n :: .inl i :: st) [.inl i, .inl n, w] st h h (some (.inl i)) hC2.1 hC2.2.1 hR hl.1 trivial rfl (Nat.le_trans r1 hfr) (Nat.le_trans r2 hlo) (Nat.ble_eq.mp hrm.2.2) ⟨hk, hz⟩ hd2 hE fun H1 locs1 hR1 => kk H1 locs1 ls hR1 hl
  rcases hv with rfl | rfl
  · exact key (.inr (.inr 0)) rfl v0
  · exact key (.inr (.inr 1000050)) (rv_out g 50) v1
end TOS
theorem szN (k : Nat) (h : k < 16) : k = 0 ∨ k = 1 ∨ k = 2 ∨ k = 3 ∨ k = 4 ∨ k = 5 ∨ k = 6 ∨ k = 7 ∨ k = 8 ∨ k = 9 ∨ k = 10 ∨ k = 11 ∨ k = 12 ∨ k = 13 ∨ k = 14 ∨ k = 15 := by omega
