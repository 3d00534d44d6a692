/-! What a call is made of (rows of p1). -/
def argsA (i : Nat) (av : List AV) : LL := match av with
  | [] => []
  | v :: t => (i, v) :: argsA (match Nat.beq (ct v) 2 with | true => i + 2 | false => i + 1) t
def slen (av : List AV) : Nat := match av with
  | [] => 0
  | v :: t => ct v + slen t
theorem argsA_eq (g : GG) : ∀ (av : List AV) (i : Nat), cL g (argsA i av) = lv_args i (av.map (cV g))
  | [], _ => rfl
  | v :: t, i => by
    rw [argsA, List.map_cons, lv_args, cV_cat]
    show (i, cV g v) :: cL g _ = _
    rw [argsA_eq g t]
    by_cases h : ct v = 2
    · rw [if_pos h, h]
    · rw [if_neg h]
      cases hb : Nat.beq (ct v) 2 with
      | true => exact absurd (Nat.eq_of_beq_eq_true hb) h
      | false => rfl
theorem ct_12 (v : AV) : ct v = 1 ∨ ct v = 2 := by
  have h := lv_cat (cV (0, fun _ => 0, (fun _ => 0, fun _ _ => 0), fun _ => 0) v)
  rw [cV_cat] at h
  exact h
theorem slen_eq (g : GG) : ∀ (av : List AV), (lg_sl (av.map (cV g))).length = slen av
  | [] => rfl
  | v :: t => by
    have ih := slen_eq g t
    unfold lg_sl at ih ⊢
    rw [List.map_cons, List.flatMap_cons, List.length_append, ih, slen, cV_cat]
    rcases ct_12 v with h | h
    · rw [h]; rfl
    · rw [h]; rfl
def retv (ret : Option FieldType) (kd : Nat) (st : List AV) : Option (Option AV) := match st with
  | [] => match kd with
    | 0 => some none
    | _ => none
  | a :: r => match r with
    | [] => match kd with
      | 1 => match isI a with
        | true => some (some a)
        | false => none
      | 2 => match a, ret with
        | .inl x, some ty => match decide (narrow ty (.int (nI x)) = .int (nI x)) with
          | true => some (some a)
          | false => none
        | _, _ => none
      | 3 => match isR a || isN a with
        | true => some (some a)
        | false => none
      | 4 => match isL a with
        | true => some (some a)
        | false => none
      | _ => none
    | _ => none

def PP (g : GG) (HB : Heap) (av : List AV) (h : List AE) : Array Value → State → Prop := va_Pc (av.map (cV g)) (fun U => Rh g HB h U.heap [] ∧ KA g HB U)

theorem PP.blind (g : GG) (HB : Heap) (av : List AV) (h : List AE) : FrameBlind (PP g HB av h) := by
  intro a U fr mk q
  obtain ⟨q0, qR, qK⟩ := q
  exact ⟨q0, qR, KA.same (s := U) (U := U.calling fr mk a) rfl qK⟩
theorem Rh.nolocs {g : GG} {HB H : Heap} {h : List AE} {locs : List Loc} (hR : Rh g HB h H locs) : Rh g HB h H [] := ⟨hR.1, hR.2.1, hR.2.2.1, fun q hq => by cases hq⟩

theorem wsG_good : GoodIn wsG wsG := fun w hw => ⟨hw, good_of_word (List.mem_filter.mp hw).2⟩

def popN (n : Nat) (st acc : List AV) : Option (List AV × List AV) := match n with
  | 0 => some (acc, st)
  | n + 1 => match st with
    | [] => none
    | v :: r => popN n r (v :: acc)
theorem popN_ok : ∀ (n : Nat) (st acc as r : List AV), popN n st acc = some (as, r) → ∃ tk : List AV, st = tk ++ r ∧ as = tk.reverse ++ acc ∧ tk.length = n
  | 0, st, acc, as, r, h => by
    cases h
    exact ⟨[], rfl, rfl, rfl⟩
  | n + 1, [], acc, as, r, h => by cases h
  | n + 1, v :: st, acc, as, r, h => by
    obtain ⟨tk, h1, h2, h3⟩ := popN_ok n st (v :: acc) as r h
    exact ⟨v :: tk, by rw [h1]; rfl, by rw [h2]; simp, by simp [h3]⟩
theorem popN_st {g : GG} {n : Nat} {st as r : List AV} (h : popN n st [] = some (as, r)) : st.map (cV g) = (as.map (cV g)).reverse ++ r.map (cV g) ∧ (as.map (cV g)).length = n := by
  obtain ⟨tk, h1, h2, h3⟩ := popN_ok n st [] as r h
  subst h1
  rw [h2, List.append_nil]
  constructor
  · rw [List.map_append, List.map_reverse, List.reverse_reverse]
  · rw [List.length_map, List.length_reverse, h3]

theorem slen_sum (g : GG) : ∀ (r : List AV), ((r.map (cV g)).map fun v => v.category).sum = slen r
  | [] => rfl
  | v :: t => by
    have ih := slen_sum g t
    rw [List.map_cons, List.map_cons, List.sum_cons, ih, cV_cat, slen]
theorem room8 (g : GG) {m : MethodId} {pc : Nat} {ls : Array Slot} {st : List Value} {r : List AV} (h : slen r ≤ 8) : 2 * (F0 m pc ls st).monitorRoom + ((r.map (cV g)).map fun v => v.category).sum ≤ 8 := by
  rw [slen_sum]
  show 2 * 0 + slen r ≤ 8
  omega

theorem pre_of {g : GG} {HB : Heap} {s : State} {H : Heap} {h : List AE} {locs : List Loc} {av : List AV} (hA : KA g HB s) (hR : Rh g HB h H locs) : ∀ U : State, U.heap = H → s.WarmedH U.vm → PP g HB av h (av.map (cV g)).toArray U :=
  fun U hU hW => ⟨rfl, by rw [hU]; exact hR.nolocs, hA.warm hW⟩
