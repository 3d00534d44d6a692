/-! The ground: what was there before, as the claim gives it. -/
def lw_At (l : Launch) (p : Program) (s : State) (m : MethodId) (meth : Method) (c : Code) (b L : Nat) (xs : Nat → Int32) : Prop :=
  p.tables.exec = Jvm.exec ∧ c.code = code ∧ meth.sig.returnType = ret ∧ c.maxLocals = 7 ∧ s.vm.findClass "MailArchiveLaw" = some m.cls ∧ (∀ w ∈ lw_tbl, w.before #[Value.ref b] s = true) ∧ va_X b L xs s s.heap ∧ b < s.heap.size ∧ meth.locks = false ∧ (Jvm.Cond.and given_1 narrow_1).before #[Value.ref b] s = true ∧ meth.name = "law" ∧ l.stackTraces = false
def extG (t0 nz mi b L : Nat) (f : Nat → Nat × Nat) (hh : Nat → Nat) (xs : Nat → Int32) (k : Nat) : Nat := match Nat.ble 2000 k with
  | true => (xs (k - 2000)).toBitVec.toNat
  | false => match Nat.ble 201 k with
    | true => hh (k - 201)
    | false => match Nat.ble 101 k with
      | true => (match (k - 101) % 2 with
        | 0 => (f ((k - 101) / 2)).1
        | _ => (f ((k - 101) / 2)).2)
      | false => match k with
        | 0 => t0
        | 50 => nz
        | 51 => mi
        | 90 => b
        | 91 => L
        | _ => 0
section EXT
variable {t0 nz mi b L : Nat} {f : Nat → Nat × Nat} {hh : Nat → Nat} {xs : Nat → Int32}
theorem extG_s (j : Nat) : extG t0 nz mi b L f hh xs (2000 + j) = (xs j).toBitVec.toNat := by
  unfold extG
  have h : Nat.ble 2000 (2000 + j) = true := Nat.ble_eq.mpr (Nat.le_add_right _ _)
  rw [h]
  show (xs (2000 + j - 2000)).toBitVec.toNat = (xs j).toBitVec.toNat
  rw [Nat.add_sub_cancel_left]
theorem ble_no {a b : Nat} (h : b < a) : Nat.ble a b = false := by
  cases hb : Nat.ble a b with
  | false => rfl
  | true => have := Nat.le_of_ble_eq_true hb; omega
theorem extG_h {i : Nat} (hi : i < 16) : extG t0 nz mi b L f hh xs (201 + i) = hh i := by
  unfold extG
  rw [ble_no (a := 2000) (by omega), Nat.ble_eq.mpr (show 201 ≤ 201 + i by omega)]
  show hh (201 + i - 201) = hh i
  rw [Nat.add_sub_cancel_left]
theorem extG_1 {i : Nat} (hi : i < 36) : extG t0 nz mi b L f hh xs (101 + 2 * i) = (f i).1 := by
  unfold extG
  rw [ble_no (a := 2000) (by omega), ble_no (a := 201) (by omega), Nat.ble_eq.mpr (show 101 ≤ 101 + 2 * i by omega)]
  have e1 : (101 + 2 * i - 101) % 2 = 0 := by omega
  have e2 : (101 + 2 * i - 101) / 2 = i := by omega
  simp only [e1, e2]
theorem extG_2 {i : Nat} (hi : i < 36) : extG t0 nz mi b L f hh xs (102 + 2 * i) = (f i).2 := by
  unfold extG
  rw [ble_no (a := 2000) (by omega), ble_no (a := 201) (by omega), Nat.ble_eq.mpr (show 101 ≤ 102 + 2 * i by omega)]
  have e1 : (102 + 2 * i - 101) % 2 = 1 := by omega
  have e2 : (102 + 2 * i - 101) / 2 = i := by omega
  simp only [e1, e2]
end EXT
theorem tinT {w : Cond} (j i : Nat) (h : (tabL j)[i]? = some w) : w ∈ lw_tbl := List.mem_append_right _ (tabL_in (List.mem_of_getElem? h))
set_option maxRecDepth 100000 in
theorem th_tbl : ∀ w ∈ thL, w ∈ lw_tbl := by
  intro w hw
  have e : thL = ([(1, 13), (3, 104), (3, 113), (3, 117), (3, 120), (3, 122), (3, 105), (3, 106), (1, 38), (1, 39), (3, 107), (3, 112), (3, 118), (3, 138), (3, 94), (3, 139), (3, 96), (3, 140), (3, 98), (3, 108), (3, 110), (3, 100), (3, 134), (3, 135), (3, 137), (3, 100), (3, 125), (3, 126), (3, 127), (3, 128), (3, 86), (3, 128), (3, 129), (3, 130), (3, 131), (3, 88), (3, 131), (3, 132), (3, 133), (3, 134), (3, 90), (3, 124), (3, 83), (3, 84), (3, 91), (3, 92), (3, 93), (3, 95), (3, 97), (3, 99), (3, 103), (3, 102), (3, 101), (1, 13), (3, 104), (3, 113), (3, 117), (3, 120), (3, 122), (3, 105), (3, 106), (1, 38), (1, 39), (3, 107), (3, 112), (3, 118), (3, 138), (3, 94), (3, 139), (3, 96), (3, 140), (3, 98), (3, 108), (3, 110), (3, 100), (3, 134), (3, 135), (3, 137), (3, 100), (5, 163), (5, 164), (5, 165), (3, 128), (3, 86), (3, 128), (3, 129), (3, 130), (3, 131), (3, 88), (3, 131), (3, 132), (3, 133), (3, 134), (3, 90), (5, 162), (5, 153), (5, 154), (5, 155), (3, 116), (5, 156), (5, 157), (5, 158), (5, 159), (3, 103), (3, 102), (5, 160), (1, 13), (3, 104), (3, 113), (3, 117), (3, 120), (3, 122), (3, 105), (3, 106), (1, 38), (1, 39), (3, 107), (3, 112), (3, 118), (3, 138), (3, 94), (3, 139), (3, 96), (3, 140), (3, 98), (3, 108), (3, 110), (3, 100), (3, 134), (3, 135), (3, 137), (3, 100), (5, 205), (5, 206), (5, 207), (3, 128), (3, 86), (3, 128), (3, 129), (3, 130), (3, 131), (3, 88), (3, 131), (3, 132), (3, 133), (3, 134), (3, 90), (5, 204), (5, 195), (5, 196), (5, 197), (3, 115), (5, 198), (5, 199), (5, 200), (5, 201), (3, 103), (3, 102), (5, 202)] : List (Nat × Nat)).filterMap (fun q => (tabL q.1)[q.2]?) := by decide +kernel
  rw [e] at hw
  obtain ⟨q, -, hq⟩ := List.mem_filterMap.mp hw
  exact tinT q.1 q.2 hq
theorem kn_start {s : State} {args : Array Value} (hts : ∀ w ∈ lw_tbl, w.before args s = true) : KN s := by
  intro w hw
  have h1 := hts w (List.mem_filter.mp hw).1
  have h2 := (List.mem_filter.mp hw).2
  cases w <;> first | exact va_Nw.of rfl h1 | exact over_vm rfl h1 | cases h2
theorem th_start {s : State} {args : Array Value} (hts : ∀ w ∈ lw_tbl, w.before args s = true) : ∀ w ∈ thL, va_Nw w s := fun w hw => va_Nw.of (th_on hw) (hts w (th_tbl w hw))
theorem cl_inst {ci : Nat} {q : vw_C} (h : vwCl[ci]? = some q) : ∃ n, Cond.instantiable q.1 n ∈ lw_tbl := by
  have hm := List.mem_of_getElem? h
  simp only [vwCl, List.mem_cons, List.not_mem_nil, or_false] at hm
  rcases hm with rfl | rfl | rfl | rfl | rfl | rfl | rfl | rfl | rfl | rfl | rfl
  · exact ⟨3, tinT 1 84 (by decide +kernel)⟩
  · exact ⟨7, tinT 1 55 (by decide +kernel)⟩
  · exact ⟨2, tinT 1 41 (by decide +kernel)⟩
  · exact ⟨5, tinT 1 146 (by decide +kernel)⟩
  · exact ⟨9, tinT 1 224 (by decide +kernel)⟩
  · exact ⟨8, tinT 5 44 (by decide +kernel)⟩
  · exact ⟨15, tinT 1 138 (by decide +kernel)⟩
  · exact ⟨17, tinT 1 216 (by decide +kernel)⟩
  · exact ⟨7, tinT 1 110 (by decide +kernel)⟩
  · exact ⟨17, tinT 1 33 (by decide +kernel)⟩
  · exact ⟨70, tinT 6 152 (by decide +kernel)⟩
theorem vk_start {s : State} {args : Array Value} (hts : ∀ w ∈ lw_tbl, w.before args s = true) : ∃ (D : va_G) (ac : Nat → ClassId), va_K D vwCl [(ac 0, .int), (ac 1, .byte), (ac 2, .boolean), (ac 3, .long), (ac 4, .object "java/lang/Object")] s := by
  have htg : ∀ w ∈ wsG, w.before args s = true := fun w hw => hts w (List.mem_filter.mp hw).1
  have h0 : ∀ ci : Nat, ∃ q : ClassId × (Nat → Nat), ∀ r : vw_C, vwCl[ci]? = some r → u_Kn s r.1 r.2.1 r.2.2 q.1 q.2 := by
    intro ci
    cases hc : vwCl[ci]? with
    | none => exact ⟨(0, fun _ => 0), fun r h => by cases h⟩
    | some r =>
      obtain ⟨C, T, N⟩ := r
      obtain ⟨n, hn⟩ := cl_inst hc
      obtain ⟨cC, iS, h⟩ := u_known htg (cl_in hc) (hts _ hn)
      exact ⟨(cC, iS), fun r h9 => by cases h9; exact h⟩
  obtain ⟨f, hf⟩ := Classical.axiomOfChoice h0
  have arrs : ∀ ty : FieldType, (match ty with | .object _ => False | _ => True) → (Cond.arrayClass ty).before args s = true → ∃ cA : ClassId, ArrOfT s cA ty ∧ va_RA s cA ty := by
    intro ty hty h
    obtain ⟨cA, k, comp, q1, q2, q3⟩ := Cond.arrayClass_spec (show (Cond.arrayClass ty).holds args s none s [] = true from h)
    refine ⟨cA, fun n z => ⟨(fun k9 h9 => by cases h9), k, q2, comp, q3⟩, ?_⟩
    cases ty <;> first | exact q1 | exact hty.elim
  obtain ⟨c0, w0⟩ := arrs .int trivial (hts _ (tinT 1 82 (by decide +kernel)))
  obtain ⟨c1, w1⟩ := arrs .byte trivial (hts _ (tinT 1 53 (by decide +kernel)))
  obtain ⟨c2, w2⟩ := arrs .boolean trivial (hts _ (tinT 2 25 (by decide +kernel)))
  obtain ⟨c3, w3⟩ := arrs .long trivial (hts _ (tinT 2 24 (by decide +kernel)))
  obtain ⟨comp, c4, kA, q1, q2, q3, q4, q5⟩ := Cond.arrayOver_spec (show (Cond.arrayOver (.object "java/lang/Object")).holds args s none s [] = true from hts _ (tinT 5 136 (by decide +kernel)))
  have w4 : ArrOfT s c4 (.object "java/lang/Object") ∧ va_RA s c4 (.object "java/lang/Object") := ⟨fun n z => ⟨(fun k9 h9 => by cases h9), kA, q3, comp, q4⟩, kA, comp, q3, q4, q1, q5⟩
  refine ⟨(fun c => (f c).1, fun c => (f c).2), fun k => match k with | 0 => c0 | 1 => c1 | 2 => c2 | 3 => c3 | _ => c4, fun c q hq => hf c q hq, fun k q hk => ?_⟩
  rcases k with _ | _ | _ | _ | _ | k
  · cases hk; exact w0
  · cases hk; exact w1
  · cases hk; exact w2
  · cases hk; exact w3
  · cases hk; exact w4
  · cases hk
def flatL : List Cond := flatC (Jvm.Cond.and given_1 narrow_1)
theorem fl_at {s : State} {args : Array Value} (h : (Jvm.Cond.and given_1 narrow_1).before args s = true) {w : Cond} (i : Nat) (hi : flatL[i]? = some w) : w.before args s = true := flat_of_before _ h w (List.mem_of_getElem? hi)
/-- the texts: where they stand, the text, where their conditions begin, where their word stands, their bytes -/
abbrev TXE : Type := String × Nat × String × Nat × Nat × Nat × List Int
def tXT : List TXE := [("MailArchive", 100, "no more messages can come", 366, 3, 123, [110, 111, 32, 109, 111, 114, 101, 32, 109, 101, 115, 115, 97, 103, 101, 115, 32, 99, 97, 110, 32, 99, 111, 109, 101]), ("MailArchive", 125, "the message is not there", 666, 5, 161, [116, 104, 101, 32, 109, 101, 115, 115, 97, 103, 101, 32, 105, 115, 32, 110, 111, 116, 32, 116, 104, 101, 114, 101]), ("MailArchive", 141, "it is no tag", 694, 5, 203, [105, 116, 32, 105, 115, 32, 110, 111, 32, 116, 97, 103]), ("MailArchive", 163, "it has eight others", 710, 5, 223, [105, 116, 32, 104, 97, 115, 32, 101, 105, 103, 104, 116, 32, 111, 116, 104, 101, 114, 115]), ("MailArchive", 182, "it is no query", 831, 6, 142, [105, 116, 32, 105, 115, 32, 110, 111, 32, 113, 117, 101, 114, 121]), ("MailArchive$Codings", 56, "=?utf-8?", 556, 4, 178, [61, 63, 117, 116, 102, 45, 56, 63]), ("MailArchive$Codings", 62, "=?us-ascii?", 568, 4, 180, [61, 63, 117, 115, 45, 97, 115, 99, 105, 105, 63]), ("MailArchive$Codings", 71, "?=", 583, 4, 184, [63, 61]), ("MailArchive$Dates", 77, "janfebmaraprmayjunjulaugsepoctnovdec", 516, 4, 73, [106, 97, 110, 102, 101, 98, 109, 97, 114, 97, 112, 114, 109, 97, 121, 106, 117, 110, 106, 117, 108, 97, 117, 103, 115, 101, 112, 111, 99, 116, 110, 111, 118, 100, 101, 99]), ("MailArchive$Header", 103, "from", 395, 3, 193, [102, 114, 111, 109]), ("MailArchive$Header", 105, "to", 403, 3, 194, [116, 111]), ("MailArchive$Header", 106, "subject", 409, 3, 195, [115, 117, 98, 106, 101, 99, 116]), ("MailArchive$Header", 108, "date", 420, 3, 196, [100, 97, 116, 101]), ("MailArchive$Header", 110, "message-id", 428, 3, 197, [109, 101, 115, 115, 97, 103, 101, 45, 105, 100]), ("MailArchive$Header", 112, "references", 442, 3, 198, [114, 101, 102, 101, 114, 101, 110, 99, 101, 115]), ("MailArchive$Header", 114, "in-reply-to", 456, 3, 199, [105, 110, 45, 114, 101, 112, 108, 121, 45, 116, 111]), ("MailArchive$Header", 116, "content-type", 471, 3, 200, [99, 111, 110, 116, 101, 110, 116, 45, 116, 121, 112, 101]), ("MailArchive$Header", 118, "content-transfer-encoding", 487, 3, 201, [99, 111, 110, 116, 101, 110, 116, 45, 116, 114, 97, 110, 115, 102, 101, 114, 45, 101, 110, 99, 111, 100, 105, 110, 103]), ("MailArchive$Lexer", 62, "or", 733, 6, 44, [111, 114]), ("MailArchive$Lexer", 68, "and", 739, 6, 46, [97, 110, 100]), ("MailArchive$Lexer", 70, "not", 746, 6, 47, [110, 111, 116]), ("MailArchive$Lexer", 104, "..", 825, 6, 70, [46, 46]), ("MailArchive$Lexer", 121, "from:", 753, 6, 55, [102, 114, 111, 109, 58]), ("MailArchive$Lexer", 123, "to:", 762, 6, 56, [116, 111, 58]), ("MailArchive$Lexer", 125, "subject:", 769, 6, 57, [115, 117, 98, 106, 101, 99, 116, 58]), ("MailArchive$Lexer", 127, "body:", 781, 6, 58, [98, 111, 100, 121, 58]), ("MailArchive$Lexer", 129, "tag:", 790, 6, 59, [116, 97, 103, 58]), ("MailArchive$Lexer", 131, "id:", 798, 6, 60, [105, 100, 58]), ("MailArchive$Lexer", 133, "thread:", 805, 6, 61, [116, 104, 114, 101, 97, 100, 58]), ("MailArchive$Lexer", 135, "date:", 816, 6, 62, [100, 97, 116, 101, 58]), ("MailArchive$Reader", 150, "text/plain", 589, 4, 235, [116, 101, 120, 116, 47, 112, 108, 97, 105, 110]), ("MailArchive$Reader", 159, "multipart/", 633, 5, 15, [109, 117, 108, 116, 105, 112, 97, 114, 116, 47]), ("MailArchive$Reader", 174, "quoted-printable", 603, 5, 5, [113, 117, 111, 116, 101, 100, 45, 112, 114, 105, 110, 116, 97, 98, 108, 101]), ("MailArchive$Reader", 186, "base64", 623, 5, 12, [98, 97, 115, 101, 54, 52]), ("MailArchive$Reader", 204, "--", 660, 5, 36, [45, 45]), ("MailArchive$Reader", 212, "boundary=", 647, 5, 22, [98, 111, 117, 110, 100, 97, 114, 121, 61])]
/-- the static rows: class, name, where their conditions begin, where their two words stand, what they hold -/
abbrev STE : Type := String × String × Nat × (Nat × Nat) × (Nat × Nat) × List Int
def tST : List STE := [("MailArchive$Dates", "MONTH_DAYS", 15, (4, 96), (1, 24), [31, 28, 31, 30, 31, 30, 31, 31, 30, 31, 30, 31]), ("MailArchiveModel", "ASCII", 211, (8, 86), (1, 12), [117, 115, 45, 97, 115, 99, 105, 105]), ("MailArchiveModel", "BASE", 278, (8, 156), (1, 12), [98, 97, 115, 101, 54, 52]), ("MailArchiveModel", "BOUNDARY", 235, (8, 134), (1, 12), [98, 111, 117, 110, 100, 97, 114, 121]), ("MailArchiveModel", "ENDS", 190, (8, 67), (1, 12), [0, 4, 8, 10, 17, 29, 54, 64, 74, 85]), ("MailArchiveModel", "FIELDS", 59, (8, 0), (1, 12), [102, 114, 111, 109, 58, 116, 111, 58, 115, 117, 98, 106, 101, 99, 116, 58, 98, 111, 100, 121, 58, 116, 97, 103, 58, 105, 100, 58, 116, 104, 114, 101, 97, 100, 58, 100, 97, 116, 101, 58]), ("MailArchiveModel", "FIELD_ENDS", 47, (7, 238), (1, 12), [0, 5, 8, 16, 21, 25, 28, 35, 40]), ("MailArchiveModel", "MONTHS", 287, (8, 174), (1, 12), [106, 97, 110, 102, 101, 98, 109, 97, 114, 97, 112, 114, 109, 97, 121, 106, 117, 110, 106, 117, 108, 97, 117, 103, 115, 101, 112, 111, 99, 116, 110, 111, 118, 100, 101, 99]), ("MailArchiveModel", "MULTIPART", 222, (8, 124), (1, 12), [109, 117, 108, 116, 105, 112, 97, 114, 116, 47]), ("MailArchiveModel", "NAMES", 102, (8, 65), (1, 12), [100, 97, 116, 101, 102, 114, 111, 109, 116, 111, 115, 117, 98, 106, 101, 99, 116, 99, 111, 110, 116, 101, 110, 116, 45, 116, 121, 112, 101, 99, 111, 110, 116, 101, 110, 116, 45, 116, 114, 97, 110, 115, 102, 101, 114, 45, 101, 110, 99, 111, 100, 105, 110, 103, 109, 101, 115, 115, 97, 103, 101, 45, 105, 100, 114, 101, 102, 101, 114, 101, 110, 99, 101, 115, 105, 110, 45, 114, 101, 112, 108, 121, 45, 116, 111]), ("MailArchiveModel", "QUOTED", 259, (8, 150), (1, 12), [113, 117, 111, 116, 101, 100, 45, 112, 114, 105, 110, 116, 97, 98, 108, 101]), ("MailArchiveModel", "TEXT_PLAIN", 246, (8, 148), (1, 12), [116, 101, 120, 116, 47, 112, 108, 97, 105, 110]), ("MailArchiveModel", "UTF", 203, (8, 84), (1, 12), [117, 116, 102, 45, 56]), ("MailArchiveModel", "WORD_AND", 35, (7, 200), (1, 12), [97, 110, 100]), ("MailArchiveModel", "WORD_NOT", 41, (7, 218), (1, 12), [110, 111, 116]), ("MailArchiveModel", "WORD_OR", 30, (7, 195), (1, 12), [111, 114])]
def tchk (x : TXE) : Bool := decide (flatL[x.2.2.2.1]? = some (Cond.exactly (Term.string x.1 x.2.1) "java/lang/String")) && (decide (flatL[x.2.2.2.1 + 1]? = some (Cond.eq (.field (Term.string x.1 x.2.1) "java/lang/String" "coder" "B") (.int 0))) && (decide (flatL[x.2.2.2.1 + 2]? = some (Cond.arrayOf (.field (Term.string x.1 x.2.1) "java/lang/String" "value" "[B") .byte)) && (decide (flatL[x.2.2.2.1 + 3]? = some (Cond.eq (.length (.field (Term.string x.1 x.2.1) "java/lang/String" "value" "[B")) (.int (Int32.ofNat x.2.2.2.2.2.2.length)))) && (decide (x.2.2.2.2.2.2.length < 2147483648) && ((List.range x.2.2.2.2.2.2.length).all (fun j => decide (flatL[x.2.2.2.1 + 4 + j]? = some (Cond.eq (.elem (.field (Term.string x.1 x.2.1) "java/lang/String" "value" "[B") (.int (Int32.ofNat j))) (.int (Int32.ofInt (x.2.2.2.2.2.2.getD j 0)))))) && decide ((tabL x.2.2.2.2.1)[x.2.2.2.2.2.1]? = some (Cond.stringRef x.1 x.2.1 x.2.2.1)))))))
set_option maxRecDepth 100000 in
theorem tchk_all : tXT.all tchk = true := by decide +kernel
def schk (x : STE) : Bool := decide (flatL[x.2.2.1 + 1]? = some (Cond.arrayOf (Term.static x.1 x.2.1 "[I") .int)) && (decide (flatL[x.2.2.1 + 2]? = some (Cond.eq (.length (Term.static x.1 x.2.1 "[I")) (.int (Int32.ofNat x.2.2.2.2.2.length)))) && (decide (x.2.2.2.2.2.length < 2147483648) && ((List.range x.2.2.2.2.2.length).all (fun j => decide (flatL[x.2.2.1 + 3 + j]? = some (Cond.eq (.elem (Term.static x.1 x.2.1 "[I") (.int (Int32.ofNat j))) (.int (Int32.ofInt (x.2.2.2.2.2.getD j 0)))))) && (decide ((tabL x.2.2.2.1.1)[x.2.2.2.1.2]? = some (Cond.laysStatic x.1 x.2.1 "[I")) && decide ((tabL x.2.2.2.2.1.1)[x.2.2.2.2.1.2]? = some (Cond.initialized x.1))))))
set_option maxRecDepth 100000 in
theorem schk_all : tST.all schk = true := by decide +kernel
theorem getD_map32 (bs : List Int) (j : Nat) : (bs.map Int32.ofInt).getD j 0 = Int32.ofInt (bs.getD j 0) := by
  rw [List.getD_eq_getElem?_getD, List.getD_eq_getElem?_getD, List.getElem?_map]
  cases bs[j]? <;> rfl
/-- a text's cell and its bytes' -/
def TxP (s : State) (A : Nat → Prop) (x : TXE) (q : Nat × Nat) : Prop := va_O "java/lang/String" q.1 A s s.heap ∧ va_OF "java/lang/String" "coder" "B" (.int 0) q.1 A s s.heap ∧ va_OF "java/lang/String" "value" "[B" (.ref q.2) q.1 A s s.heap ∧ va_T .byte q.2 x.2.2.2.2.2.2.length (fun j => .int (Int32.ofInt (x.2.2.2.2.2.2.getD j 0))) A s s.heap ∧ vk_R x.1 x.2.1 x.2.2.1 q.1 s
theorem tx_of {s : State} {args : Array Value} (h : (Jvm.Cond.and given_1 narrow_1).before args s = true) (hts : ∀ w ∈ lw_tbl, w.before args s = true) {A : Nat → Prop} (hA : ∀ a : Nat, a < s.heap.size → ¬ A a) {x : TXE} (hc : tchk x = true) : ∃ q, TxP s A x q := by
  obtain ⟨own, idx, tx, pos, sj, si, bs⟩ := x
  unfold tchk at hc
  simp only [Bool.and_eq_true, decide_eq_true_eq] at hc
  obtain ⟨c1, c2, c3, c4, c5, c6, c7⟩ := hc
  have c6 : ∀ j, j < bs.length → flatL[pos + 4 + j]? = some (Cond.eq (.elem (.field (Term.string own idx) "java/lang/String" "value" "[B") (.int (Int32.ofNat j))) (.int (Int32.ofInt (bs.getD j 0)))) := fun j hj => of_decide_eq_true (List.all_eq_true.mp c6 j (List.mem_range.mpr hj))
  obtain ⟨adK, adV, h1, h2⟩ := vk_Sof (args := args) (s := s) (N := 1) (tm := fun _ => Term.string own idx) (len := [bs.length]) (byt := [bs.map Int32.ofInt]) (A := A) (fun i hi => by rw [show i = 0 by omega]; exact c5) (fun i hi => fl_at h pos c1) (fun i hi => fl_at h (pos + 1) c2) (fun i hi => fl_at h (pos + 2) c3)
    (fun i hi => by rw [show i = 0 by omega]; exact fl_at h (pos + 3) c4) (fun i hi j hj => by
      rw [show i = 0 by omega] at hj ⊢
      show (Cond.eq (.elem (.field (Term.string own idx) "java/lang/String" "value" "[B") (.int (Int32.ofNat j))) (.int ((bs.map Int32.ofInt).getD j 0))).before args s = true
      rw [getD_map32]
      exact fl_at h (pos + 4 + j) (c6 j hj)) (fun i j hi hj hij => (hij (by omega)).elim) hA
  obtain ⟨e1, e2, e3, e4⟩ := h1.1 0 (by omega)
  refine ⟨(adK 0, adV 0), e1, e2, e3, ?_, vk_R.of (A := args) (hts _ (tinT sj si c7)) (h2 0 (by omega))⟩
  have e4 : va_T .byte (adV 0) bs.length (fun j => .int ((bs.map Int32.ofInt).getD j 0)) A s s.heap := e4
  have e5 : (fun j => Value.int ((bs.map Int32.ofInt).getD j 0)) = fun j => Value.int (Int32.ofInt (bs.getD j 0)) := funext fun j => by rw [getD_map32]
  rw [e5] at e4
  exact e4
/-- a static row's cell -/
def StP (s : State) (A : Nat → Prop) (x : STE) (t : Nat) : Prop := va_T .int t x.2.2.2.2.2.length (fun j => .int (Int32.ofInt (x.2.2.2.2.2.getD j 0))) A s s.heap ∧ va_Z x.1 x.2.1 "[I" (.ref t) A s s.heap
theorem stp_of {s : State} {args : Array Value} (h : (Jvm.Cond.and given_1 narrow_1).before args s = true) (hts : ∀ w ∈ lw_tbl, w.before args s = true) {A : Nat → Prop} (hA : ∀ a : Nat, a < s.heap.size → ¬ A a) {x : STE} (hc : schk x = true) : ∃ t, StP s A x t := by
  obtain ⟨C, f, pos, q1, q2, bs⟩ := x
  unfold schk at hc
  simp only [Bool.and_eq_true, decide_eq_true_eq] at hc
  obtain ⟨c1, c2, c3, c4, c5, c6⟩ := hc
  have c4 : ∀ j, j < bs.length → flatL[pos + 3 + j]? = some (Cond.eq (.elem (Term.static C f "[I") (.int (Int32.ofNat j))) (.int (Int32.ofInt (bs.getD j 0)))) := fun j hj => of_decide_eq_true (List.all_eq_true.mp c4 j (List.mem_range.mpr hj))
  obtain ⟨t, ht, hT⟩ := va_Tof (args := args) (s := s) (tm := .static C f "[I") (ty := .int) (N := bs.length) (f := fun j => .int (Int32.ofInt (bs.getD j 0))) (A := A) c3 (fl_at h (pos + 1) c1) (va_eqt (fl_at h (pos + 2) c2)) (fun j hj => va_eqt (fl_at h (pos + 3 + j) (c4 j hj))) hA
  exact ⟨t, hT, va_Zof (C := C) (n := f) (d := "[I") (hts _ (tinT q1.1 q1.2 c5)) (hts _ (tinT q2.1 q2.2 c6)) ht hA⟩
-- the lists of what stands outside, out of these
def oOF (x : Nat × String × String × String × (Int ⊕ Int ⊕ Nat)) : Bool := (List.range 36).any (fun i => decide (x = (101 + 2 * i, "java/lang/String", "value", "[B", .inr (.inr (1000000 + (102 + 2 * i))))) || decide (x = (101 + 2 * i, "java/lang/String", "coder", "B", .inl 0)))
theorem oOF_all : xOF.all oOF = true := by decide +kernel
def oT (x : Nat × FieldType × Nat × List Int) : Bool := decide (x = (0, .object "java/lang/Object", 0, [])) || ((List.range 36).any (fun i => match tXT[i]? with | none => false | some y => decide (x = (102 + 2 * i, .byte, y.2.2.2.2.2.2.length, y.2.2.2.2.2.2))) || (List.range 16).any (fun i => match tST[i]? with | none => false | some y => decide (x = (201 + i, .int, y.2.2.2.2.2.length, y.2.2.2.2.2))))
theorem oT_all : xT.all oT = true := by decide +kernel
def oZ (x : String × String × String × (Int ⊕ Int ⊕ Nat)) : Bool := decide (x = ("java/util/ArrayList", "DEFAULTCAPACITY_EMPTY_ELEMENTDATA", "[Ljava/lang/Object;", .inr (.inr 1000000))) || (decide (x = ("java/lang/String", "COMPACT_STRINGS", "Z", .inl 1)) || (List.range 16).any (fun i => match tST[i]? with | none => false | some y => decide (x = (y.1, y.2.1, "[I", .inr (.inr (1000000 + (201 + i)))))))
theorem oZ_all : xZ.all oZ = true := by decide +kernel
def oR (x : String × Nat × String × Nat) : Bool := (List.range 36).any (fun i => match tXT[i]? with | none => false | some y => decide (x = (y.1, y.2.1, y.2.2.1, 101 + 2 * i)))
theorem oR_all : xR.all oR = true := by decide +kernel
def oO (x : Nat × String) : Bool := (List.range 36).any (fun i => decide (x = (101 + 2 * i, "java/lang/String")))
theorem oO_all : xO.all oO = true := by decide +kernel
set_option maxHeartbeats 4000000 in
theorem whole_g {l : Launch} {p : Program} {s : State} {m : MethodId} {meth : Method} {c : Code} {b L : Nat} {xs : Nat → Int32} (hL : L ≤ 384) (h0 : lw_At l p s m meth c b L xs) :
    ∃ g : GG, g.1 + 1 = s.heap.size ∧ KA g s.heap s ∧ TX g s.heap s ∧ g.2.1 90 = b ∧ g.2.1 91 = L := by
  obtain ⟨hx, hb, hr, hml, hown, hts, hX, hbl, hlocks, hgv, hnm, hst0⟩ := h0
  have C0 : ∀ {w : Cond} (j i : Nat), (tabL j)[i]? = some w → w.before #[Value.ref b] s = true := fun j i h => hts _ (tinT j i h)
  have hsz : s.heap.size - 1 + 1 = s.heap.size := by omega
  have hA : ∀ a : Nat, a < s.heap.size → ¬ (s.heap.size - 1 + 1 ≤ a) := fun a h h9 => by omega
  obtain ⟨D, ac, hK⟩ := vk_start hts
  have ht : ∀ i : Nat, ∃ q : Nat × Nat, ∀ x, tXT[i]? = some x → TxP s (fun q => s.heap.size - 1 + 1 ≤ q) x q := fun i => by
    cases hi : tXT[i]? with
    | none => exact ⟨(0, 0), fun x h => by cases h⟩
    | some x =>
      obtain ⟨q, hq⟩ := tx_of hgv hts hA (List.all_eq_true.mp tchk_all x (List.mem_of_getElem? hi))
      exact ⟨q, fun y h => by cases h; exact hq⟩
  obtain ⟨f, hf⟩ := Classical.axiomOfChoice ht
  have hs : ∀ i : Nat, ∃ t : Nat, ∀ x, tST[i]? = some x → StP s (fun q => s.heap.size - 1 + 1 ≤ q) x t := fun i => by
    cases hi : tST[i]? with
    | none => exact ⟨0, fun x h => by cases h⟩
    | some x =>
      obtain ⟨q, hq⟩ := stp_of hgv hts hA (List.all_eq_true.mp schk_all x (List.mem_of_getElem? hi))
      exact ⟨q, fun y h => by cases h; exact hq⟩
  obtain ⟨hh, hh1⟩ := Classical.axiomOfChoice hs
  obtain ⟨t0, ht0, hT0⟩ := va_Tof (args := #[Value.ref b]) (s := s) (tm := .static "java/util/ArrayList" "DEFAULTCAPACITY_EMPTY_ELEMENTDATA" "[Ljava/lang/Object;") (ty := .object "java/lang/Object") (N := 0) (f := fun j => .int (Int32.ofInt (([] : List Int).getD j 0))) (A := fun q => s.heap.size - 1 + 1 ≤ q) (by decide) (fl_at hgv 5 (by decide +kernel)) (va_eqt (fl_at hgv 7 (by decide +kernel))) (fun j hj => absurd hj (Nat.not_lt_zero j)) hA
  have z1 := va_Zof (C := "java/util/ArrayList") (n := "DEFAULTCAPACITY_EMPTY_ELEMENTDATA") (d := "[Ljava/lang/Object;") (C0 1 96 (by decide +kernel)) (C0 1 6 (by decide +kernel)) ht0 hA
  have z2 := va_Zof (C := "java/lang/String") (n := "COMPACT_STRINGS") (d := "Z") (C0 3 211 (by decide +kernel)) (C0 1 20 (by decide +kernel)) (va_eqi (z := 1) (fl_at hgv 10 (by decide +kernel))) hA
  have z3 := va_Zqof (C := "jdk/internal/util/Preconditions") (n := "SIOOBE_FORMATTER") (d := "Ljava/util/function/BiFunction;") (C0 3 235 (by decide +kernel)) (C0 1 22 (by decide +kernel)) (fl_at hgv 11 (by decide +kernel)) hA
  obtain ⟨nz, v9, hv9, z4⟩ : ∃ (nz : Nat) (v : Value), (v = .null ∨ v = .ref nz) ∧ va_Z "jdk/internal/util/Preconditions" "SIOOBE_FORMATTER" "Ljava/util/function/BiFunction;" v (fun q => s.heap.size - 1 + 1 ≤ q) s s.heap := by
    rcases z3 with z | ⟨t, z⟩
    · exact ⟨0, _, Or.inl rfl, z⟩
    · exact ⟨t, _, Or.inr rfl, z⟩
  obtain ⟨mi, hmi⟩ := va_Mi.of (C := "[Ljava/lang/Object;") (fl_at hgv 365 (by decide +kernel))
  have hdc := va_Dc.of (C0 9 54 (by decide +kernel))
  have hU := vx_Zqof (args := #[Value.ref b]) (A := fun q => s.heap.size - 1 + 1 ≤ q) (C := Bundle.tN) (n := "UNASSIGNED_STACK") (d := Bundle.steD) (C0 3 109 (by decide +kernel)) (C0 1 13 (by decide +kernel)) (fl_at hgv 8 (by decide +kernel)) hA
  have hN := vx_Zqof (args := #[Value.ref b]) (A := fun q => s.heap.size - 1 + 1 ≤ q) (C := Bundle.tN) (n := "SUPPRESSED_SENTINEL") (d := Bundle.listD) (C0 3 111 (by decide +kernel)) (C0 1 13 (by decide +kernel)) (fl_at hgv 9 (by decide +kernel)) hA
  refine ⟨(s.heap.size - 1, extG t0 nz mi b L f hh xs, D, ac), hsz, ⟨hK, kn_start hts, ?_, ?_, ?_, ?_, ?_, ?_, ?_, ⟨v9, hv9, z4⟩, hmi, hdc⟩, ⟨th_start hts, hU, hN⟩, rfl, rfl⟩
  · intro x hx
    obtain ⟨i, hi, h9⟩ := List.any_eq_true.mp (List.all_eq_true.mp oOF_all x hx)
    have hi := List.mem_range.mp hi
    have k := hf i _ (List.getElem?_eq_getElem (show i < tXT.length from hi))
    rw [Bool.or_eq_true, decide_eq_true_eq, decide_eq_true_eq] at h9
    rcases h9 with rfl | rfl
    · show va_OF _ _ _ (rv _ (1000000 + (102 + 2 * i))) (extG t0 nz mi b L f hh xs (101 + 2 * i)) _ _ _
      rw [rv_out]
      show va_OF _ _ _ (.ref (extG t0 nz mi b L f hh xs (102 + 2 * i))) (extG t0 nz mi b L f hh xs (101 + 2 * i)) _ _ _
      rw [extG_1 hi, extG_2 hi]
      exact k.2.2.1
    · show va_OF _ _ _ _ (extG t0 nz mi b L f hh xs (101 + 2 * i)) _ _ _
      rw [extG_1 hi]
      exact k.2.1
  · intro x hx
    have h9 := List.all_eq_true.mp oT_all x hx
    unfold oT at h9
    rw [Bool.or_eq_true, Bool.or_eq_true, decide_eq_true_eq] at h9
    rcases h9 with rfl | h9 | h9
    · exact hT0
    · obtain ⟨i, hi, h9⟩ := List.any_eq_true.mp h9
      have hi := List.mem_range.mp hi
      have e := List.getElem?_eq_getElem (show i < tXT.length from hi)
      rw [e] at h9
      have h9 := of_decide_eq_true h9
      have k := hf i _ e
      rw [h9]
      show va_T _ (extG t0 nz mi b L f hh xs (102 + 2 * i)) _ _ _ _ _
      rw [extG_2 hi]
      exact k.2.2.2.1
    · obtain ⟨i, hi, h9⟩ := List.any_eq_true.mp h9
      have hi := List.mem_range.mp hi
      have e := List.getElem?_eq_getElem (show i < tST.length from hi)
      rw [e] at h9
      have h9 := of_decide_eq_true h9
      have k := hh1 i _ e
      rw [h9]
      show va_T _ (extG t0 nz mi b L f hh xs (201 + i)) _ _ _ _ _
      rw [extG_h hi]
      exact k.1
  · intro x hx
    have h9 := List.all_eq_true.mp oZ_all x hx
    unfold oZ at h9
    rw [Bool.or_eq_true, Bool.or_eq_true, decide_eq_true_eq, decide_eq_true_eq] at h9
    rcases h9 with rfl | rfl | h9
    · exact z1
    · exact z2
    · obtain ⟨i, hi, h9⟩ := List.any_eq_true.mp h9
      have hi := List.mem_range.mp hi
      have e := List.getElem?_eq_getElem (show i < tST.length from hi)
      rw [e] at h9
      have h9 := of_decide_eq_true h9
      have k := hh1 i _ e
      rw [h9]
      show va_Z _ _ _ (rv _ (1000000 + (201 + i))) _ _ _
      rw [rv_out]
      show va_Z _ _ _ (.ref (extG t0 nz mi b L f hh xs (201 + i))) _ _ _
      rw [extG_h hi]
      exact k.2
  · intro x hx
    obtain ⟨i, hi, h9⟩ := List.any_eq_true.mp (List.all_eq_true.mp oR_all x hx)
    have hi := List.mem_range.mp hi
    have e := List.getElem?_eq_getElem (show i < tXT.length from hi)
    rw [e] at h9
    have h9 := of_decide_eq_true h9
    have k := hf i _ e
    rw [h9]
    show vk_R _ _ _ (extG t0 nz mi b L f hh xs (101 + 2 * i)) s
    rw [extG_1 hi]
    exact k.2.2.2.2
  · intro x hx
    obtain ⟨i, hi, h9⟩ := List.any_eq_true.mp (List.all_eq_true.mp oO_all x hx)
    have hi := List.mem_range.mp hi
    have k := hf i _ (List.getElem?_eq_getElem (show i < tXT.length from hi))
    have h9 := of_decide_eq_true h9
    rw [h9]
    show va_O _ (extG t0 nz mi b L f hh xs (101 + 2 * i)) _ _ _
    rw [extG_1 hi]
    exact k.1
  · obtain ⟨scr, y1, y2, y3, y4, y5⟩ := hX
    refine ⟨scr, y1, y2, y3, Nat.le_of_eq y4.symm, by rw [y4]; rfl, fun j hj => ?_, fun h9 => by have h9 : s.heap.size - 1 + 1 ≤ b := h9; omega⟩
    rw [y5 j hj]
    show some (Value.int (xs j)) = some (Value.int (Int32.ofNat (extG t0 nz mi b L f hh xs (2000 + j))))
    rw [extG_s]
    congr 2
    apply Int32.toBitVec_inj.mp
    show (xs j).toBitVec = BitVec.ofNat 32 (xs j).toBitVec.toNat
    simp
  · show L ≤ 400
    omega
