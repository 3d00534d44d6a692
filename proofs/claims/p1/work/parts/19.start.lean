/-! The ground: what was there before, as the claim gives it. -/
def lw_At (l : Launch) (p : Program) (s : State) (m : MethodId) (meth : Method) (c : Code) (b L : Nat) (xs : Nat → Int32) : Prop :=
  p.tables.exec = Jvm.exec ∧ c.code = code ∧ meth.sig.returnType = ret ∧ c.maxLocals = 7 ∧ s.vm.findClass "MailArchiveLaw" = some m.cls ∧ (∀ w ∈ lw_tbl, w.before #[Value.ref b] s = true) ∧ va_X b L xs s s.heap ∧ b < s.heap.size ∧ meth.locks = false ∧ (Jvm.Cond.and given_1 narrow_1).before #[Value.ref b] s = true ∧ meth.name = "law" ∧ l.stackTraces = false
def extG (t0 a1 v1 a2 v2 a3 v3 b L nz : Nat) (xs : Nat → Int32) (k : Nat) : Nat := match Nat.ble 2000 k with
  | true => toN (xs (k - 2000))
  | false => match k with
    | 0 => t0
    | 1 => a1
    | 2 => v1
    | 3 => a2
    | 4 => v2
    | 5 => a3
    | 6 => v3
    | 90 => b
    | 91 => L
    | _ => nz
theorem extG_s {t0 a1 v1 a2 v2 a3 v3 b L nz : Nat} {xs : Nat → Int32} (j : Nat) : extG t0 a1 v1 a2 v2 a3 v3 b L nz xs (2000 + j) = toN (xs j) := by
  unfold extG
  have h : Nat.ble 2000 (2000 + j) = true := Nat.ble_eq.mpr (Nat.le_add_right _ _)
  rw [h]
  show toN (xs (2000 + j - 2000)) = toN (xs j)
  rw [Nat.add_sub_cancel_left]
theorem tinT {w : Cond} (j i : Nat) (h : (tabL j)[i]? = some w) : w ∈ lw_tbl := List.mem_append_right _ (tabL_in (List.mem_of_getElem? h))
set_option maxRecDepth 100000 in
theorem th_tbl : ∀ w ∈ thL, w ∈ lw_tbl := by
  intro w hw
  have e : thL = ([(1, 13), (3, 104), (3, 113), (3, 117), (3, 120), (3, 122), (3, 105), (3, 106), (1, 38), (1, 39), (3, 107), (3, 112), (3, 118), (3, 138), (3, 94), (3, 139), (3, 96), (3, 140), (3, 98), (3, 108), (3, 110), (3, 100), (3, 134), (3, 135), (3, 137), (3, 100), (5, 163), (5, 164), (5, 165), (3, 128), (3, 86), (3, 128), (3, 129), (3, 130), (3, 131), (3, 88), (3, 131), (3, 132), (3, 133), (3, 134), (3, 90), (5, 162), (5, 153), (5, 154), (5, 155), (3, 116), (5, 156), (5, 157), (5, 158), (5, 159), (3, 103), (3, 102), (5, 160)] : List (Nat × Nat)).filterMap (fun q => (tabL q.1)[q.2]?) := by decide +kernel
  rw [e] at hw
  obtain ⟨q, -, hq⟩ := List.mem_filterMap.mp hw
  exact tinT q.1 q.2 hq
theorem kn_start {s : State} {args : Array Value} (hts : ∀ w ∈ lw_tbl, w.before args s = true) : KN s := by
  intro w hw
  have h1 := hts w (List.mem_filter.mp hw).1
  have h2 := (List.mem_filter.mp hw).2
  cases w <;> first | exact va_Nw.of rfl h1 | exact over_vm rfl h1 | cases h2
theorem th_start {s : State} {args : Array Value} (hts : ∀ w ∈ lw_tbl, w.before args s = true) : ∀ w ∈ thL, va_Nw w s := fun w hw => va_Nw.of (th_on hw) (hts w (th_tbl w hw))
theorem cl_inst {ci : Nat} {q : vw_C} (h : vwCl[ci]? = some q) : ∃ n, Cond.instantiable q.1 n ∈ lw_tbl := by
  have hm := List.mem_of_getElem? h
  simp only [vwCl, List.mem_cons, List.not_mem_nil, or_false] at hm
  rcases hm with rfl | rfl | rfl | rfl | rfl | rfl | rfl | rfl | rfl | rfl | rfl
  · exact ⟨3, tinT 1 84 (by decide +kernel)⟩
  · exact ⟨7, tinT 1 55 (by decide +kernel)⟩
  · exact ⟨2, tinT 1 41 (by decide +kernel)⟩
  · exact ⟨5, tinT 1 146 (by decide +kernel)⟩
  · exact ⟨9, tinT 1 224 (by decide +kernel)⟩
  · exact ⟨8, tinT 5 44 (by decide +kernel)⟩
  · exact ⟨15, tinT 1 138 (by decide +kernel)⟩
  · exact ⟨17, tinT 1 216 (by decide +kernel)⟩
  · exact ⟨7, tinT 1 110 (by decide +kernel)⟩
  · exact ⟨17, tinT 1 33 (by decide +kernel)⟩
  · exact ⟨70, tinT 6 152 (by decide +kernel)⟩
theorem vk_start {s : State} {args : Array Value} (hts : ∀ w ∈ lw_tbl, w.before args s = true) : ∃ (D : va_G) (ac : Nat → ClassId), va_K D vwCl [(ac 0, .int), (ac 1, .byte), (ac 2, .boolean), (ac 3, .long), (ac 4, .object "java/lang/Object")] s := by
  have htg : ∀ w ∈ wsG, w.before args s = true := fun w hw => hts w (List.mem_filter.mp hw).1
  have h0 : ∀ ci : Nat, ∃ q : ClassId × (Nat → Nat), ∀ r : vw_C, vwCl[ci]? = some r → u_Kn s r.1 r.2.1 r.2.2 q.1 q.2 := by
    intro ci
    cases hc : vwCl[ci]? with
    | none => exact ⟨(0, fun _ => 0), fun r h => by cases h⟩
    | some r =>
      obtain ⟨C, T, N⟩ := r
      obtain ⟨n, hn⟩ := cl_inst hc
      obtain ⟨cC, iS, h⟩ := u_known htg (cl_in hc) (hts _ hn)
      exact ⟨(cC, iS), fun r h9 => by cases h9; exact h⟩
  obtain ⟨f, hf⟩ := Classical.axiomOfChoice h0
  have arrs : ∀ ty : FieldType, (match ty with | .object _ => False | _ => True) → (Cond.arrayClass ty).before args s = true → ∃ cA : ClassId, ArrOfT s cA ty ∧ va_RA s cA ty := by
    intro ty hty h
    obtain ⟨cA, k, comp, q1, q2, q3⟩ := Cond.arrayClass_spec (show (Cond.arrayClass ty).holds args s none s [] = true from h)
    refine ⟨cA, fun n z => ⟨(fun k9 h9 => by cases h9), k, q2, comp, q3⟩, ?_⟩
    cases ty <;> first | exact q1 | exact hty.elim
  obtain ⟨c0, w0⟩ := arrs .int trivial (hts _ (tinT 1 82 (by decide +kernel)))
  obtain ⟨c1, w1⟩ := arrs .byte trivial (hts _ (tinT 1 53 (by decide +kernel)))
  obtain ⟨c2, w2⟩ := arrs .boolean trivial (hts _ (tinT 2 25 (by decide +kernel)))
  obtain ⟨c3, w3⟩ := arrs .long trivial (hts _ (tinT 2 24 (by decide +kernel)))
  obtain ⟨comp, c4, kA, q1, q2, q3, q4, q5⟩ := Cond.arrayOver_spec (show (Cond.arrayOver (.object "java/lang/Object")).holds args s none s [] = true from hts _ (tinT 5 136 (by decide +kernel)))
  have w4 : ArrOfT s c4 (.object "java/lang/Object") ∧ va_RA s c4 (.object "java/lang/Object") := ⟨fun n z => ⟨(fun k9 h9 => by cases h9), kA, q3, comp, q4⟩, kA, comp, q3, q4, q1, q5⟩
  refine ⟨(fun c => (f c).1, fun c => (f c).2), fun k => match k with | 0 => c0 | 1 => c1 | 2 => c2 | 3 => c3 | _ => c4, fun c q hq => hf c q hq, fun k q hk => ?_⟩
  rcases k with _ | _ | _ | _ | _ | k
  · cases hk; exact w0
  · cases hk; exact w1
  · cases hk; exact w2
  · cases hk; exact w3
  · cases hk; exact w4
  · cases hk
def flatL : List Cond := flatC (Jvm.Cond.and given_1 narrow_1)
theorem fl_at {s : State} {args : Array Value} (h : (Jvm.Cond.and given_1 narrow_1).before args s = true) {w : Cond} (i : Nat) (hi : flatL[i]? = some w) : w.before args s = true := flat_of_before _ h w (List.mem_of_getElem? hi)

def by_77 : List Int32 := [106, 97, 110, 102, 101, 98, 109, 97, 114, 97, 112, 114, 109, 97, 121, 106, 117, 110, 106, 117, 108, 97, 117, 103, 115, 101, 112, 111, 99, 116, 110, 111, 118, 100, 101, 99]
set_option maxRecDepth 100000 in
theorem fe_77 : ∀ j, j < 36 → flatL[520 + j]? = some (Cond.eq (.elem (.field (Term.string "MailArchive$Dates" 77) "java/lang/String" "value" "[B") (.int (Int32.ofNat j))) (.int (by_77.getD j 0))) := by decide +kernel
theorem st_77 {s : State} {args : Array Value} (h : (Jvm.Cond.and given_1 narrow_1).before args s = true) {A : Nat → Prop} (hA : ∀ a : Nat, a < s.heap.size → ¬ A a) : ∃ a v : Nat, va_O "java/lang/String" a A s s.heap ∧ va_OF "java/lang/String" "coder" "B" (.int 0) a A s s.heap ∧ va_OF "java/lang/String" "value" "[B" (.ref v) a A s s.heap ∧ va_T .byte v 36 (fun j => .int (by_77.getD j 0)) A s s.heap ∧ (Term.string "MailArchive$Dates" 77).eval args s none [] s = some (.ref a) := by
  obtain ⟨adK, adV, h1, h2⟩ := vk_Sof (args := args) (s := s) (N := 1) (tm := fun _ => (Term.string "MailArchive$Dates" 77)) (len := [36]) (byt := [by_77]) (A := A) (fun i hi => by rw [show i = 0 by omega]; decide) (fun i hi => fl_at h 516 (by decide +kernel)) (fun i hi => fl_at h 517 (by decide +kernel)) (fun i hi => fl_at h 518 (by decide +kernel))
    (fun i hi => by rw [show i = 0 by omega]; exact fl_at h 519 (by decide +kernel)) (fun i hi j hj => by rw [show i = 0 by omega] at hj ⊢; exact fl_at h (520 + j) (fe_77 j hj)) (fun i j hi hj hij => (hij (by omega)).elim) hA
  obtain ⟨e1, e2, e3, e4⟩ := h1.1 0 (by omega)
  exact ⟨adK 0, adV 0, e1, e2, e3, e4, h2 0 (by omega)⟩
def by_174 : List Int32 := [113, 117, 111, 116, 101, 100, 45, 112, 114, 105, 110, 116, 97, 98, 108, 101]
set_option maxRecDepth 100000 in
theorem fe_174 : ∀ j, j < 16 → flatL[607 + j]? = some (Cond.eq (.elem (.field (Term.string "MailArchive$Reader" 174) "java/lang/String" "value" "[B") (.int (Int32.ofNat j))) (.int (by_174.getD j 0))) := by decide +kernel
theorem st_174 {s : State} {args : Array Value} (h : (Jvm.Cond.and given_1 narrow_1).before args s = true) {A : Nat → Prop} (hA : ∀ a : Nat, a < s.heap.size → ¬ A a) : ∃ a v : Nat, va_O "java/lang/String" a A s s.heap ∧ va_OF "java/lang/String" "coder" "B" (.int 0) a A s s.heap ∧ va_OF "java/lang/String" "value" "[B" (.ref v) a A s s.heap ∧ va_T .byte v 16 (fun j => .int (by_174.getD j 0)) A s s.heap ∧ (Term.string "MailArchive$Reader" 174).eval args s none [] s = some (.ref a) := by
  obtain ⟨adK, adV, h1, h2⟩ := vk_Sof (args := args) (s := s) (N := 1) (tm := fun _ => (Term.string "MailArchive$Reader" 174)) (len := [16]) (byt := [by_174]) (A := A) (fun i hi => by rw [show i = 0 by omega]; decide) (fun i hi => fl_at h 603 (by decide +kernel)) (fun i hi => fl_at h 604 (by decide +kernel)) (fun i hi => fl_at h 605 (by decide +kernel))
    (fun i hi => by rw [show i = 0 by omega]; exact fl_at h 606 (by decide +kernel)) (fun i hi j hj => by rw [show i = 0 by omega] at hj ⊢; exact fl_at h (607 + j) (fe_174 j hj)) (fun i j hi hj hij => (hij (by omega)).elim) hA
  obtain ⟨e1, e2, e3, e4⟩ := h1.1 0 (by omega)
  exact ⟨adK 0, adV 0, e1, e2, e3, e4, h2 0 (by omega)⟩
def by_186 : List Int32 := [98, 97, 115, 101, 54, 52]
set_option maxRecDepth 100000 in
theorem fe_186 : ∀ j, j < 6 → flatL[627 + j]? = some (Cond.eq (.elem (.field (Term.string "MailArchive$Reader" 186) "java/lang/String" "value" "[B") (.int (Int32.ofNat j))) (.int (by_186.getD j 0))) := by decide +kernel
theorem st_186 {s : State} {args : Array Value} (h : (Jvm.Cond.and given_1 narrow_1).before args s = true) {A : Nat → Prop} (hA : ∀ a : Nat, a < s.heap.size → ¬ A a) : ∃ a v : Nat, va_O "java/lang/String" a A s s.heap ∧ va_OF "java/lang/String" "coder" "B" (.int 0) a A s s.heap ∧ va_OF "java/lang/String" "value" "[B" (.ref v) a A s s.heap ∧ va_T .byte v 6 (fun j => .int (by_186.getD j 0)) A s s.heap ∧ (Term.string "MailArchive$Reader" 186).eval args s none [] s = some (.ref a) := by
  obtain ⟨adK, adV, h1, h2⟩ := vk_Sof (args := args) (s := s) (N := 1) (tm := fun _ => (Term.string "MailArchive$Reader" 186)) (len := [6]) (byt := [by_186]) (A := A) (fun i hi => by rw [show i = 0 by omega]; decide) (fun i hi => fl_at h 623 (by decide +kernel)) (fun i hi => fl_at h 624 (by decide +kernel)) (fun i hi => fl_at h 625 (by decide +kernel))
    (fun i hi => by rw [show i = 0 by omega]; exact fl_at h 626 (by decide +kernel)) (fun i hi j hj => by rw [show i = 0 by omega] at hj ⊢; exact fl_at h (627 + j) (fe_186 j hj)) (fun i j hi hj hij => (hij (by omega)).elim) hA
  obtain ⟨e1, e2, e3, e4⟩ := h1.1 0 (by omega)
  exact ⟨adK 0, adV 0, e1, e2, e3, e4, h2 0 (by omega)⟩
def by_125 : List Int32 := [116, 104, 101, 32, 109, 101, 115, 115, 97, 103, 101, 32, 105, 115, 32, 110, 111, 116, 32, 116, 104, 101, 114, 101]
set_option maxRecDepth 100000 in
theorem fe_125 : ∀ j, j < 24 → flatL[670 + j]? = some (Cond.eq (.elem (.field (Term.string "MailArchive" 125) "java/lang/String" "value" "[B") (.int (Int32.ofNat j))) (.int (by_125.getD j 0))) := by decide +kernel
theorem st_125 {s : State} {args : Array Value} (h : (Jvm.Cond.and given_1 narrow_1).before args s = true) {A : Nat → Prop} (hA : ∀ a : Nat, a < s.heap.size → ¬ A a) : ∃ a v : Nat, va_O "java/lang/String" a A s s.heap ∧ va_OF "java/lang/String" "coder" "B" (.int 0) a A s s.heap ∧ va_OF "java/lang/String" "value" "[B" (.ref v) a A s s.heap ∧ va_T .byte v 24 (fun j => .int (by_125.getD j 0)) A s s.heap ∧ (Term.string "MailArchive" 125).eval args s none [] s = some (.ref a) := by
  obtain ⟨adK, adV, h1, h2⟩ := vk_Sof (args := args) (s := s) (N := 1) (tm := fun _ => (Term.string "MailArchive" 125)) (len := [24]) (byt := [by_125]) (A := A) (fun i hi => by rw [show i = 0 by omega]; decide) (fun i hi => fl_at h 666 (by decide +kernel)) (fun i hi => fl_at h 667 (by decide +kernel)) (fun i hi => fl_at h 668 (by decide +kernel))
    (fun i hi => by rw [show i = 0 by omega]; exact fl_at h 669 (by decide +kernel)) (fun i hi j hj => by rw [show i = 0 by omega] at hj ⊢; exact fl_at h (670 + j) (fe_125 j hj)) (fun i j hi hj hij => (hij (by omega)).elim) hA
  obtain ⟨e1, e2, e3, e4⟩ := h1.1 0 (by omega)
  exact ⟨adK 0, adV 0, e1, e2, e3, e4, h2 0 (by omega)⟩
set_option maxHeartbeats 1000000 in
theorem whole_g {l : Launch} {p : Program} {s : State} {m : MethodId} {meth : Method} {c : Code} {b L : Nat} {xs : Nat → Int32} (hL : L ≤ 6) (h0 : lw_At l p s m meth c b L xs) :
    ∃ (g : GG) (sa : Nat), g.1 = s.heap.size ∧ KA g s.heap s ∧ TX g s.heap sa s ∧ g.2.1 90 = b ∧ g.2.1 91 = L ∧ ∀ j, g.2.1 (2000 + j) = toN (xs j) := by
  obtain ⟨hx, hb, hr, hml, hown, hts, hX, hbl, hlocks, hgv, hnm, hst0⟩ := h0
  have C0 : ∀ {w : Cond} (j i : Nat), (tabL j)[i]? = some w → w.before #[Value.ref b] s = true := fun j i h => hts _ (tinT j i h)
  have hA : ∀ a : Nat, a < s.heap.size → ¬ (s.heap.size ≤ a) := fun a h h9 => by omega
  obtain ⟨D, ac, hK⟩ := vk_start hts
  obtain ⟨a1, v1, p1, p2, p3, p4, r77⟩ := st_77 hgv (A := fun q => s.heap.size ≤ q) hA
  obtain ⟨a2, v2, q1, q2, q3, q4, r174⟩ := st_174 hgv (A := fun q => s.heap.size ≤ q) hA
  obtain ⟨a3, v3, u1, u2, u3, u4, r186⟩ := st_186 hgv (A := fun q => s.heap.size ≤ q) hA
  obtain ⟨sa, -, -, -, -, -, r125⟩ := st_125 hgv (A := fun q => s.heap.size ≤ q) hA
  obtain ⟨t0, ht0, hT0⟩ := va_Tof (args := #[Value.ref b]) (s := s) (tm := .static "java/util/ArrayList" "DEFAULTCAPACITY_EMPTY_ELEMENTDATA" "[Ljava/lang/Object;") (ty := .object "java/lang/Object") (N := 0) (f := fun j => .int (([] : List Int32).getD j 0)) (A := fun q => s.heap.size ≤ q) (by decide) (fl_at hgv 5 (by decide +kernel)) (va_eqt (fl_at hgv 7 (by decide +kernel))) (fun j hj => absurd hj (Nat.not_lt_zero j)) hA
  have z1 := va_Zof (C := "java/util/ArrayList") (n := "DEFAULTCAPACITY_EMPTY_ELEMENTDATA") (d := "[Ljava/lang/Object;") (C0 1 96 (by decide +kernel)) (C0 1 6 (by decide +kernel)) ht0 hA
  have z2 := va_Zof (C := "java/lang/String") (n := "COMPACT_STRINGS") (d := "Z") (C0 3 211 (by decide +kernel)) (C0 1 20 (by decide +kernel)) (va_eqi (z := 1) (fl_at hgv 10 (by decide +kernel))) hA
  have z3 := va_Zqof (C := "jdk/internal/util/Preconditions") (n := "SIOOBE_FORMATTER") (d := "Ljava/util/function/BiFunction;") (C0 3 235 (by decide +kernel)) (C0 1 22 (by decide +kernel)) (fl_at hgv 11 (by decide +kernel)) hA
  have hnz : ∃ nz : Nat, va_Z "jdk/internal/util/Preconditions" "SIOOBE_FORMATTER" "Ljava/util/function/BiFunction;" (match nz with | 0 => .null | q + 1 => .ref q) (fun q => s.heap.size ≤ q) s s.heap := by
    rcases z3 with z | ⟨t, z⟩
    · exact ⟨0, z⟩
    · exact ⟨t + 1, z⟩
  obtain ⟨nz, z4⟩ := hnz
  have hU := vx_Zqof (args := #[Value.ref b]) (A := fun q => s.heap.size ≤ q) (C := Bundle.tN) (n := "UNASSIGNED_STACK") (d := Bundle.steD) (C0 3 109 (by decide +kernel)) (C0 1 13 (by decide +kernel)) (fl_at hgv 8 (by decide +kernel)) hA
  have hN := vx_Zqof (args := #[Value.ref b]) (A := fun q => s.heap.size ≤ q) (C := Bundle.tN) (n := "SUPPRESSED_SENTINEL") (d := Bundle.listD) (C0 3 111 (by decide +kernel)) (C0 1 13 (by decide +kernel)) (fl_at hgv 9 (by decide +kernel)) hA
  refine ⟨(s.heap.size, extG t0 a1 v1 a2 v2 a3 v3 b L nz xs, D, ac), sa, rfl, ⟨hK, kn_start hts, ?_, ?_, ?_, ?_, ?_, ?_⟩, ⟨th_start hts, vk_R.of (A := #[Value.ref b]) (C0 5 161 (by decide +kernel)) r125, hU, hN⟩, rfl, rfl, fun j => extG_s j⟩
  · intro x hx
    simp only [xOF, List.mem_cons, List.not_mem_nil, or_false] at hx
    rcases hx with rfl | rfl | rfl | rfl | rfl | rfl
    · exact p3
    · exact p2
    · exact q3
    · exact q2
    · exact u3
    · exact u2
  · intro x hx
    simp only [xT, List.mem_cons, List.not_mem_nil, or_false] at hx
    rcases hx with rfl | rfl | rfl | rfl
    · exact hT0
    · exact p4
    · exact q4
    · exact u4
  · intro x hx
    simp only [xZ, List.mem_cons, List.not_mem_nil, or_false] at hx
    rcases hx with rfl | rfl | rfl
    · exact z1
    · exact z2
    · exact z4
  · intro x hx
    simp only [xR, List.mem_cons, List.not_mem_nil, or_false] at hx
    rcases hx with rfl | rfl | rfl
    · exact (vk_R.of (A := #[Value.ref b]) (C0 4 73 (by decide +kernel)) r77)
    · exact (vk_R.of (A := #[Value.ref b]) (C0 5 5 (by decide +kernel)) r174)
    · exact (vk_R.of (A := #[Value.ref b]) (C0 5 12 (by decide +kernel)) r186)
  · intro x hx
    simp only [xO, List.mem_cons, List.not_mem_nil, or_false] at hx
    rcases hx with rfl | rfl | rfl
    · exact p1
    · exact q1
    · exact u1
  · obtain ⟨scr, y1, y2, y3, y4, y5⟩ := hX
    refine ⟨scr, y1, y2, y3, Nat.le_of_eq y4.symm, by rw [y4]; rfl, fun j hj => ?_, fun h9 => by have h9 : s.heap.size ≤ b := h9; omega⟩
    rw [y5 j hj]
    show some (Value.int (xs j)) = some (Value.int (nI (extG t0 a1 v1 a2 v2 a3 v3 b L nz xs (2000 + j))))
    rw [extG_s, nI_toN]
