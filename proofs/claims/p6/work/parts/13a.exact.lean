/-! Steps with their exact numbers. -/
def shx (x y : Int) : Int := (Int32.ofInt x >>> (Int32.ofInt y &&& 31)).toInt
theorem shx_i32 (x y : Int) : I32 (shx x y) := i32_toInt _
theorem ofInt_shx (x y : Int) : Int32.ofInt (shx x y) = Int32.ofInt x >>> (Int32.ofInt y &&& 31) := by
  unfold shx
  rw [Int32.ofInt_toInt]
theorem shx0 {x : Int} (hx : I32 x) : shx x 0 = x := by
  unfold shx
  have h1 : Int32.ofInt x >>> (Int32.ofInt 0 &&& 31) = Int32.ofInt x := by
    apply Int32.toBitVec_inj.mp
    have h2 : (Int32.ofInt 0 &&& 31 : Int32) = 0 := by decide
    rw [h2]
    show (Int32.ofInt x).toBitVec.sshiftRight' ((0 : Int32).toBitVec.smod 32) = (Int32.ofInt x).toBitVec
    have h3 : ((0 : Int32).toBitVec.smod 32 : BitVec 32) = 0#32 := by decide
    rw [h3]
    simp [BitVec.sshiftRight']
  rw [h1]
  exact tI_of hx
theorem iand255 (x : Int) : Int32.ofInt x &&& Int32.ofInt 255 = Int32.ofInt (x % 256) := by
  apply Int32.toBitVec_inj.mp
  rw [Int32.toBitVec_and]
  show BitVec.ofInt 32 x &&& BitVec.ofInt 32 255 = BitVec.ofInt 32 (x % 256)
  apply BitVec.eq_of_toNat_eq
  rw [BitVec.toNat_and, BitVec.toNat_ofInt, BitVec.toNat_ofInt, BitVec.toNat_ofInt]
  have e : ((255 : Int) % ((2 ^ 32 : Nat) : Int)).toNat = 2 ^ 8 - 1 := by decide
  rw [e, Nat.and_two_pow_sub_one_eq_mod]
  show (x % 4294967296).toNat % 256 = (x % 256 % 4294967296).toNat
  omega
theorem idivx {x y : Int} (hx : 0 ≤ x ∧ x < 2147483648) (hy : 0 < y ∧ y < 2147483648) : Int32.ofInt x / Int32.ofInt y = Int32.ofInt (x / y) := by
  apply Int32.toInt_inj.mp
  have h1 : 0 ≤ x / y := Int.ediv_nonneg hx.1 (by omega)
  have h2 : x / y ≤ x := Int.ediv_le_self y hx.1
  rw [Int32.toInt_div, tI_of (a := x) (by unfold I32; omega), tI_of (a := y) (by unfold I32; omega), tI_of (a := x / y) (by unfold I32; omega), Int.tdiv_eq_ediv_of_nonneg hx.1]
  exact Int.bmod_eq_of_le (by omega) (by omega)
theorem iremx {x y : Int} (hx : 0 ≤ x ∧ x < 2147483648) (hy : 0 < y ∧ y < 2147483648) : Int32.ofInt x - Int32.ofInt x / Int32.ofInt y * Int32.ofInt y = Int32.ofInt (x % y) := by
  rw [idivx hx hy, ← Int32.ofInt_mul, ← Int32.ofInt_sub]
  congr 1
  have := Int.emod_add_mul_ediv x y
  have e : x / y * y = y * (x / y) := Int.mul_comm _ _
  omega
theorem b8_b8 (x : Int) : b8 (b8 x) = b8 x := by
  have := b8_in x
  exact b8_id (by omega)
theorem b8_mod (x : Int) (h : -128 ≤ x ∧ x ≤ 127) : b8 (x % 256) = x := by
  unfold b8
  show (x % ((256 : Nat) : Int)).bmod 256 = x
  rw [Int.emod_bmod]
  exact Int.bmod_eq_of_le (by omega) (by omega)
section TOY
variable {l : Launch} {E : ME} {pc : Nat} {L : LL} {st : List V} {h : Hp} {k z : Nat} {F : Option V → Hp → Nat → Nat → Prop}
theorem to_ishrx {x y : Int} (hd : decode E.1 pc = .ok (.ishr, 1)) (k0 : To l E (pc + 1, L, .inl (shx x y) :: st, h, k, z) F) : To l E (pc, L, .inl y :: .inl x :: st, h, k, z) F :=
  to_of (sx_pure (fun g HB p e R s m args below meth c Q H locs ls hC hl kk => lv_ishr hC.1.1 hC.1.2.1 hd (by
    have kk := kk ls hl
    have kk : W p l e R s m args below meth c H locs k z Q (F0 m (pc + 1) ls (.int (Int32.ofInt (shx x y)) :: st.map (dv g))) := kk
    rw [ofInt_shx] at kk
    exact kk))) k0
theorem to_iand255 {x : Int} (hd : decode E.1 pc = .ok (.iand, 1)) (k0 : To l E (pc + 1, L, .inl (x % 256) :: st, h, k, z) F) : To l E (pc, L, .inl 255 :: .inl x :: st, h, k, z) F :=
  to_of (sx_pure (fun g HB p e R s m args below meth c Q H locs ls hC hl kk => lv_iand hC.1.1 hC.1.2.1 hd (by
    have kk := kk ls hl
    have kk : W p l e R s m args below meth c H locs k z Q (F0 m (pc + 1) ls (.int (Int32.ofInt (x % 256)) :: st.map (dv g))) := kk
    rw [← iand255] at kk
    exact kk))) k0
theorem to_iremx {x y : Int} (hx : 0 ≤ x ∧ x < 2147483648) (hy : 0 < y ∧ y < 2147483648) (hd : decode E.1 pc = .ok (.irem, 1)) (k0 : To l E (pc + 1, L, .inl (x % y) :: st, h, k, z) F) : To l E (pc, L, .inl y :: .inl x :: st, h, k, z) F :=
  to_of (sx_pure (fun g HB p e R s m args below meth c Q H locs ls hC hl kk => lv_irem hC.1.1 hC.1.2.1 hd (fun h0 => by
    have h1 : I32 y := by unfold I32; omega
    have := (eq_of h1 (by omega)).mp (h0.trans zero_of)
    omega) (by
    have kk := kk ls hl
    have kk : W p l e R s m args below meth c H locs k z Q (F0 m (pc + 1) ls (.int (Int32.ofInt (x % y)) :: st.map (dv g))) := kk
    rw [← iremx hx hy] at kk
    exact kk))) k0
end TOY
/-- the k-th byte of a number -/
def nb (v : Int) (k : Nat) : Int := match k with
  | 0 => b8 (shx v 24)
  | 1 => b8 (shx v 16)
  | 2 => b8 (shx v 8)
  | _ => b8 v
/-- what four bytes more leave of a row -/
def put4 (f : Nat → Int) (i : Nat) (v : Int) (j : Nat) : Int := if j = i + 3 then nb v 3 else if j = i + 2 then nb v 2 else if j = i + 1 then nb v 1 else if j = i then nb v 0 else f j
/-- the twenty bytes made ready out of five numbers -/
def rdyF (a b c d e : Int) (j : Nat) : Int := nb (match j / 4 with
  | 0 => a
  | 1 => b
  | 2 => c
  | 3 => d
  | _ => e) (j % 4)
theorem nb_ref {v : Int} (hv : I32 v) {k : Nat} (hk : k < 4) : b8 (shx v (24 - 8 * (k : Int))) = nb v k := by
  rcases (show k = 0 ∨ k = 1 ∨ k = 2 ∨ k = 3 by omega) with rfl | rfl | rfl | rfl
  · rfl
  · rfl
  · rfl
  · show b8 (shx v 0) = b8 v
    rw [shx0 hv]
theorem nb0 (k : Nat) : nb 0 k = 0 := by
  unfold nb
  split <;> decide +kernel
theorem rdy_put4 {f0 f1 f2 f3 f4 f5 : Nat → Int} {a b c d e : Int} (h1 : ∀ j, f1 j = put4 f0 0 a j) (h2 : ∀ j, f2 j = put4 f1 4 b j) (h3 : ∀ j, f3 j = put4 f2 8 c j) (h4 : ∀ j, f4 j = put4 f3 12 d j) (h5 : ∀ j, f5 j = put4 f4 16 e j) : ∀ j, j < 20 → f5 j = rdyF a b c d e j := by
  intro j hj
  rw [h5]
  unfold put4
  rw [h4]
  unfold put4
  rw [h3]
  unfold put4
  rw [h2]
  unfold put4
  rw [h1]
  unfold put4
  rcases (show j = 0 ∨ j = 1 ∨ j = 2 ∨ j = 3 ∨ j = 4 ∨ j = 5 ∨ j = 6 ∨ j = 7 ∨ j = 8 ∨ j = 9 ∨ j = 10 ∨ j = 11 ∨ j = 12 ∨ j = 13 ∨ j = 14 ∨ j = 15 ∨ j = 16 ∨ j = 17 ∨ j = 18 ∨ j = 19 by omega) with rfl | rfl | rfl | rfl | rfl | rfl | rfl | rfl | rfl | rfl | rfl | rfl | rfl | rfl | rfl | rfl | rfl | rfl | rfl | rfl <;> simp [rdyF]
theorem rdy0 {j : Nat} : rdyF 0 0 0 0 0 j = 0 := by
  unfold rdyF
  have e : (match j / 4 with | 0 => (0 : Int) | 1 => 0 | 2 => 0 | 3 => 0 | _ => 0) = 0 := by split <;> rfl
  rw [e]
  exact nb0 _
theorem rdy_at {a b c d e v k : Int} (ha : I32 a) (hb : I32 b) (hc : I32 c) (hd : I32 d) (he : I32 e) (hk : 0 ≤ k ∧ k < 20) (hv : (k < 4 ∧ v = a) ∨ (4 ≤ k ∧ k < 8 ∧ v = b) ∨ (8 ≤ k ∧ k < 12 ∧ v = c) ∨ (12 ≤ k ∧ k < 16 ∧ v = d) ∨ (16 ≤ k ∧ v = e)) : b8 (shx v (24 - 8 * (k % 4))) = rdyF a b c d e k.toNat := by
  obtain ⟨n, rfl⟩ : ∃ n : Nat, k = (n : Int) := ⟨k.toNat, by omega⟩
  have e1 : (24 : Int) - 8 * ((n : Int) % 4) = 24 - 8 * ((n % 4 : Nat) : Int) := by omega
  have h4 : n % 4 < 4 := Nat.mod_lt _ (by decide)
  rw [e1, Int.toNat_natCast]
  unfold rdyF
  rcases hv with ⟨q, rfl⟩ | ⟨q1, q2, rfl⟩ | ⟨q1, q2, rfl⟩ | ⟨q1, q2, rfl⟩ | ⟨q1, rfl⟩
  · rw [show n / 4 = 0 by omega]; exact nb_ref ha h4
  · rw [show n / 4 = 1 by omega]; exact nb_ref hb h4
  · rw [show n / 4 = 2 by omega]; exact nb_ref hc h4
  · rw [show n / 4 = 3 by omega]; exact nb_ref hd h4
  · rw [show n / 4 = 4 by omega]; exact nb_ref he h4
theorem wr_own {h : Hp} {a j i : Nat} {v : Int} : (wr h a j v).2.2 a i = if i = j then v else h.2.2 a i := by
  rw [wr_if]
  simp only [true_and]
/-- one byte more is carried over -/
theorem pa_step {f i o0 x n : Int} {src old R R' : Nat → Int} (h0 : 0 ≤ f ∧ f ≤ i ∧ 0 ≤ o0) (hn : n = o0 + (i - f)) (hr : ∀ j : Nat, R j = if o0.toNat ≤ j ∧ j < (o0 + (i - f)).toNat then src (f.toNat + (j - o0.toNat)) else old j) (hu : ∀ j : Nat, R' j = if j = n.toNat then b8 x else R j) (hx : b8 x = src i.toNat) : ∀ j : Nat, R' j = if o0.toNat ≤ j ∧ j < (o0 + (i + 1 - f)).toNat then src (f.toNat + (j - o0.toNat)) else old j := by
  intro j
  rw [hu]
  by_cases c : j = n.toNat
  · rw [if_pos c, hx, if_pos ⟨by omega, by omega⟩]
    congr 1
    omega
  · rw [if_neg c, hr]
    by_cases c2 : o0.toNat ≤ j ∧ j < (o0 + (i - f)).toNat
    · rw [if_pos c2, if_pos ⟨c2.1, by omega⟩]
    · rw [if_neg c2, if_neg (by omega)]
theorem pa_0 {o0 n : Int} {src old R : Nat → Int} (hr : ∀ j : Nat, R j = if o0.toNat ≤ j ∧ j < (o0 + (n - 0)).toNat then src ((0 : Int).toNat + (j - o0.toNat)) else old j) : ∀ j : Nat, R j = if o0.toNat ≤ j ∧ j < (o0 + n).toNat then src (j - o0.toNat) else old j := by
  intro j
  rw [hr, Int.sub_zero, Int.toNat_zero, Nat.zero_add]
theorem pa_init {o0 f : Int} {src old R : Nat → Int} (e : R = old) : ∀ j : Nat, R j = if o0.toNat ≤ j ∧ j < (o0 + (f - f)).toNat then src (f.toNat + (j - o0.toNat)) else old j := by
  intro j
  rw [if_neg (by omega), e]
theorem rd_step {k o0 n x : Int} {src old R R' : Nat → Int} (h0 : 0 ≤ k) (h1 : 0 ≤ o0) (hn : n = o0 + k) (hr : ∀ j : Nat, R j = if o0.toNat ≤ j ∧ j < (o0 + k).toNat then src (j - o0.toNat) else old j) (hu : ∀ j : Nat, R' j = if j = n.toNat then x else R j) (hx : x = src k.toNat) : ∀ j : Nat, R' j = if o0.toNat ≤ j ∧ j < (o0 + (k + 1)).toNat then src (j - o0.toNat) else old j := by
  intro j
  rw [hu]
  by_cases c : j = n.toNat
  · rw [if_pos c, hx, if_pos ⟨by omega, by omega⟩]
    congr 1
    omega
  · rw [if_neg c, hr]
    by_cases c2 : o0.toNat ≤ j ∧ j < (o0 + k).toNat
    · rw [if_pos c2, if_pos ⟨c2.1, by omega⟩]
    · rw [if_neg c2, if_neg (by omega)]
