/-! Heaps told by lists; the constructors, by program. -/
def lkT (T : List (Nat × Ty)) (f : Nat → Option Ty) (a : Nat) : Option Ty := match T with
  | [] => f a
  | q :: r => match Nat.beq a q.1 with
    | true => some q.2
    | false => lkT r f a
def lkW (W : List (Nat × Nat × Int)) (f : Nat → Nat → Int) (a j : Nat) : Int := match W with
  | [] => f a j
  | q :: r => match Nat.beq a q.1 && Nat.beq j q.2.1 with
    | true => q.2.2
    | false => lkW r f a j
/-- b, and behind it the cells of T, the numbers of W -/
def hpx (b : Hp) (n : Nat) (T : List (Nat × Ty)) (W : List (Nat × Nat × Int)) : Hp := (n, lkT T b.2.1, lkW W b.2.2)
def hp0 : Hp := (1, fun _ => none, fun _ _ => 0)
def TA_2 : List (Nat × Ty) := [(1, .inr 9)]
def WA_0 : List (Nat × Nat × Int) := []
def TA_3 : List (Nat × Ty) := (2, .inr 2) :: TA_2
def TA_4 : List (Nat × Ty) := (3, .inl (1, 20)) :: TA_3
def WA_1 : List (Nat × Nat × Int) := (2, 0, 3) :: WA_0
def WA_2 : List (Nat × Nat × Int) := (1, 0, 2) :: WA_1
def TA_5 : List (Nat × Ty) := (4, .inr 2) :: TA_4
def TA_6 : List (Nat × Ty) := (5, .inl (1, 1200)) :: TA_5
def WA_3 : List (Nat × Nat × Int) := (4, 0, 5) :: WA_2
def WA_4 : List (Nat × Nat × Int) := (1, 1, 4) :: WA_3
def TA_7 : List (Nat × Ty) := (6, .inr 2) :: TA_6
def TA_8 : List (Nat × Ty) := (7, .inl (1, 1200)) :: TA_7
def WA_5 : List (Nat × Nat × Int) := (6, 0, 7) :: WA_4
def WA_6 : List (Nat × Nat × Int) := (1, 2, 6) :: WA_5
def TA_9 : List (Nat × Ty) := (8, .inr 1) :: TA_8
def TA_10 : List (Nat × Ty) := (9, .inl (0, 1024)) :: TA_9
def WA_7 : List (Nat × Nat × Int) := (8, 0, 9) :: WA_6
def TA_11 : List (Nat × Ty) := (10, .inl (460, 64)) :: TA_10
def WA_8 : List (Nat × Nat × Int) := (8, 1, 10) :: WA_7
def TA_12 : List (Nat × Ty) := (11, .inl (60, 65)) :: TA_11
def WA_9 : List (Nat × Nat × Int) := (8, 2, 11) :: WA_8
def TA_13 : List (Nat × Ty) := (12, .inl (560, 64)) :: TA_12
def WA_10 : List (Nat × Nat × Int) := (8, 3, 12) :: WA_9
def TA_14 : List (Nat × Ty) := (13, .inl (661, 512)) :: TA_13
def WA_11 : List (Nat × Nat × Int) := (8, 4, 13) :: WA_10
def WA_12 : List (Nat × Nat × Int) := (1, 3, 8) :: WA_11
def TA_15 : List (Nat × Ty) := (14, .inr 1) :: TA_14
def TA_16 : List (Nat × Ty) := (15, .inl (0, 1024)) :: TA_15
def WA_13 : List (Nat × Nat × Int) := (14, 0, 15) :: WA_12
def TA_17 : List (Nat × Ty) := (16, .inl (470, 64)) :: TA_16
def WA_14 : List (Nat × Nat × Int) := (14, 1, 16) :: WA_13
def TA_18 : List (Nat × Ty) := (17, .inl (70, 65)) :: TA_17
def WA_15 : List (Nat × Nat × Int) := (14, 2, 17) :: WA_14
def TA_19 : List (Nat × Ty) := (18, .inl (570, 64)) :: TA_18
def WA_16 : List (Nat × Nat × Int) := (14, 3, 18) :: WA_15
def TA_20 : List (Nat × Ty) := (19, .inl (671, 512)) :: TA_19
def WA_17 : List (Nat × Nat × Int) := (14, 4, 19) :: WA_16
def WA_18 : List (Nat × Nat × Int) := (1, 4, 14) :: WA_17
def TA_21 : List (Nat × Ty) := (20, .inr 1) :: TA_20
def TA_22 : List (Nat × Ty) := (21, .inl (0, 1024)) :: TA_21
def WA_19 : List (Nat × Nat × Int) := (20, 0, 21) :: WA_18
def TA_23 : List (Nat × Ty) := (22, .inl (480, 64)) :: TA_22
def WA_20 : List (Nat × Nat × Int) := (20, 1, 22) :: WA_19
def TA_24 : List (Nat × Ty) := (23, .inl (80, 65)) :: TA_23
def WA_21 : List (Nat × Nat × Int) := (20, 2, 23) :: WA_20
def TA_25 : List (Nat × Ty) := (24, .inl (580, 64)) :: TA_24
def WA_22 : List (Nat × Nat × Int) := (20, 3, 24) :: WA_21
def TA_26 : List (Nat × Ty) := (25, .inl (681, 512)) :: TA_25
def WA_23 : List (Nat × Nat × Int) := (20, 4, 25) :: WA_22
def WA_24 : List (Nat × Nat × Int) := (1, 5, 20) :: WA_23
def TA_27 : List (Nat × Ty) := (26, .inr 0) :: TA_26
def WA_25 : List (Nat × Nat × Int) := (26, 0, 0) :: WA_24
def WA_26 : List (Nat × Nat × Int) := (26, 1, 1000000) :: WA_25
def WA_27 : List (Nat × Nat × Int) := (1, 6, 26) :: WA_26
def TA_28 : List (Nat × Ty) := (27, .inr 8) :: TA_27
def TA_29 : List (Nat × Ty) := (28, .inl (0, 3460)) :: TA_28
def WA_28 : List (Nat × Nat × Int) := (27, 2, 28) :: WA_27
def TA_30 : List (Nat × Ty) := (29, .inl (0, 3460)) :: TA_29
def WA_29 : List (Nat × Nat × Int) := (27, 3, 29) :: WA_28
def TA_31 : List (Nat × Ty) := (30, .inl (0, 3460)) :: TA_30
def WA_30 : List (Nat × Nat × Int) := (27, 4, 30) :: WA_29
def TA_32 : List (Nat × Ty) := (31, .inl (0, 60)) :: TA_31
def WA_31 : List (Nat × Nat × Int) := (27, 5, 31) :: WA_30
def WA_32 : List (Nat × Nat × Int) := (27, 0, 26) :: WA_31
def WA_33 : List (Nat × Nat × Int) := (27, 1, 14) :: WA_32
def WA_34 : List (Nat × Nat × Int) := (1, 7, 27) :: WA_33
def TA_33 : List (Nat × Ty) := (32, .inr 6) :: TA_32
def TA_34 : List (Nat × Ty) := (33, .inr 2) :: TA_33
def TA_35 : List (Nat × Ty) := (34, .inl (1, 1200)) :: TA_34
def WA_35 : List (Nat × Nat × Int) := (33, 0, 34) :: WA_34
def WA_36 : List (Nat × Nat × Int) := (32, 4, 33) :: WA_35
def TA_36 : List (Nat × Ty) := (35, .inr 2) :: TA_35
def TA_37 : List (Nat × Ty) := (36, .inl (1, 1200)) :: TA_36
def WA_37 : List (Nat × Nat × Int) := (35, 0, 36) :: WA_36
def WA_38 : List (Nat × Nat × Int) := (32, 5, 35) :: WA_37
def TA_38 : List (Nat × Ty) := (37, .inr 2) :: TA_37
def TA_39 : List (Nat × Ty) := (38, .inl (1, 16)) :: TA_38
def WA_39 : List (Nat × Nat × Int) := (37, 0, 38) :: WA_38
def WA_40 : List (Nat × Nat × Int) := (32, 6, 37) :: WA_39
def TA_40 : List (Nat × Ty) := (39, .inr 2) :: TA_39
def TA_41 : List (Nat × Ty) := (40, .inl (1, 41)) :: TA_40
def WA_41 : List (Nat × Nat × Int) := (39, 0, 40) :: WA_40
def WA_42 : List (Nat × Nat × Int) := (32, 7, 39) :: WA_41
def TA_42 : List (Nat × Ty) := (41, .inl (0, 1200)) :: TA_41
def WA_43 : List (Nat × Nat × Int) := (32, 8, 41) :: WA_42
def TA_43 : List (Nat × Ty) := (42, .inl (0, 16)) :: TA_42
def WA_44 : List (Nat × Nat × Int) := (32, 9, 42) :: WA_43
def TA_44 : List (Nat × Ty) := (43, .inl (0, 401)) :: TA_43
def WA_45 : List (Nat × Nat × Int) := (32, 10, 43) :: WA_44
def TA_45 : List (Nat × Ty) := (44, .inl (0, 401)) :: TA_44
def WA_46 : List (Nat × Nat × Int) := (32, 11, 44) :: WA_45
def TA_46 : List (Nat × Ty) := (45, .inl (0, 401)) :: TA_45
def WA_47 : List (Nat × Nat × Int) := (32, 12, 45) :: WA_46
def WA_48 : List (Nat × Nat × Int) := (32, 0, 4) :: WA_47
def WA_49 : List (Nat × Nat × Int) := (32, 1, 8) :: WA_48
def WA_50 : List (Nat × Nat × Int) := (32, 2, 14) :: WA_49
def TA_47 : List (Nat × Ty) := (46, .inr 3) :: TA_46
def TA_48 : List (Nat × Ty) := (47, .inl (0, 9)) :: TA_47
def WA_51 : List (Nat × Nat × Int) := (46, 1, 47) :: WA_50
def TA_49 : List (Nat × Ty) := (48, .inl (0, 9)) :: TA_48
def WA_52 : List (Nat × Nat × Int) := (46, 2, 48) :: WA_51
def WA_53 : List (Nat × Nat × Int) := (46, 0, 4) :: WA_52
def WA_54 : List (Nat × Nat × Int) := (32, 3, 46) :: WA_53
def WA_55 : List (Nat × Nat × Int) := (1, 8, 32) :: WA_54
def TA_50 : List (Nat × Ty) := (49, .inr 7) :: TA_49
def TA_51 : List (Nat × Ty) := (50, .inl (3, 21)) :: TA_50
def WA_56 : List (Nat × Nat × Int) := (49, 7, 50) :: WA_55
def TA_52 : List (Nat × Ty) := (51, .inl (3, 21)) :: TA_51
def WA_57 : List (Nat × Nat × Int) := (49, 8, 51) :: WA_56
def TA_53 : List (Nat × Ty) := (52, .inl (2, 21)) :: TA_52
def WA_58 : List (Nat × Nat × Int) := (49, 9, 52) :: WA_57
def TA_54 : List (Nat × Ty) := (53, .inl (0, 1200)) :: TA_53
def WA_59 : List (Nat × Nat × Int) := (49, 10, 53) :: WA_58
def TA_55 : List (Nat × Ty) := (54, .inr 2) :: TA_54
def TA_56 : List (Nat × Ty) := (55, .inl (1, 16)) :: TA_55
def WA_60 : List (Nat × Nat × Int) := (54, 0, 55) :: WA_59
def WA_61 : List (Nat × Nat × Int) := (49, 11, 54) :: WA_60
def WA_62 : List (Nat × Nat × Int) := (49, 0, 6) :: WA_61
def WA_63 : List (Nat × Nat × Int) := (49, 1, 26) :: WA_62
def WA_64 : List (Nat × Nat × Int) := (49, 2, 27) :: WA_63
def WA_65 : List (Nat × Nat × Int) := (49, 3, 8) :: WA_64
def WA_66 : List (Nat × Nat × Int) := (49, 4, 14) :: WA_65
def WA_67 : List (Nat × Nat × Int) := (49, 5, 20) :: WA_66
def TA_57 : List (Nat × Ty) := (56, .inr 4) :: TA_56
def WA_68 : List (Nat × Nat × Int) := (56, 0, 6) :: WA_67
def WA_69 : List (Nat × Nat × Int) := (49, 6, 56) :: WA_68
def WA_70 : List (Nat × Nat × Int) := (1, 9, 49) :: WA_69
def TA_58 : List (Nat × Ty) := (57, .inl (0, 60)) :: TA_57
def WA_71 : List (Nat × Nat × Int) := (1, 10, 57) :: WA_70
def TA_59 : List (Nat × Ty) := (58, .inl (0, 60)) :: TA_58
def WA_72 : List (Nat × Nat × Int) := (1, 11, 58) :: WA_71
def TA_60 : List (Nat × Ty) := (59, .inl (0, 60)) :: TA_59
def WA_73 : List (Nat × Nat × Int) := (1, 12, 59) :: WA_72
/-- all names of the class but the bytes made ready stand as they were made -/
def BB (h : Hp) : Prop := h.1 = 60 ∧ h.2.1 = lkT TA_60 (fun _ => none) ∧ (∀ a j lo hi, a < 4 → rg a j = some (lo, hi) → lo ≤ h.2.2 a j ∧ h.2.2 a j ≤ hi) ∧ ∀ a j, 60 ≤ a → h.2.2 a j = 0
def fixB (a : Nat) : Option Ty := match Nat.blt a 60 with
  | true => fixTy a
  | false => none
def rgB (a j : Nat) : Option (Int × Int) := match Nat.blt a 4 with
  | true => rg a j
  | false => none
theorem lkA_fix : ∀ a, a < 60 → lkT TA_60 (fun _ => none) a = fixTy a := by decide +kernel
theorem fixB_lt {a : Nat} {t : Ty} (e : fixB a = some t) : a < 60 ∧ fixTy a = some t := by
  unfold fixB at e
  cases hb : Nat.blt a 60 with
  | true => rw [hb] at e; exact ⟨Nat.blt_eq.mp hb, e⟩
  | false => rw [hb] at e; cases e
theorem rgB_lt {a j : Nat} {q : Int × Int} (e : rgB a j = some q) : a < 4 ∧ rg a j = some q := by
  unfold rgB at e
  cases hb : Nat.blt a 4 with
  | true => rw [hb] at e; exact ⟨Nat.blt_eq.mp hb, e⟩
  | false => rw [hb] at e; cases e
theorem BB.atS {h : Hp} (hI : BB h) {a : Nat} {t : Ty} (e : fixB a = some t) : h.2.1 a = some t := by
  obtain ⟨h1, h2⟩ := fixB_lt e
  rw [hI.2.1, lkA_fix a h1]
  exact h2
theorem BB.atR {h : Hp} (hI : BB h) {a j : Nat} {lo hi : Int} (e : rgB a j = some (lo, hi)) : lo ≤ h.2.2 a j ∧ h.2.2 a j ≤ hi := by
  obtain ⟨h1, h2⟩ := rgB_lt e
  exact hI.2.2.1 a j lo hi h1 h2
theorem BB.atE {h : Hp} (hI : BB h) {a j : Nat} {c : Int} (e : rgB a j = some (c, c)) : h.2.2 a j = c := by
  have := hI.atR e
  omega
def isB0 (a : Nat) : Bool := Nat.beq a 2
theorem isB0_in {a : Nat} (h : isB0 a = true) : a = 2 := Nat.eq_of_beq_eq_true h
theorem isB0_B {a : Nat} (h : isB0 a = true) : isB a = true := by rw [isB0_in h]; rfl
theorem BB.pos {h : Hp} (_ : BB h) {a : Nat} (hb : isB0 a = true) : 0 < a := by rw [isB0_in hb]; decide
theorem BB.bty {h : Hp} (hI : BB h) {a : Nat} (hb : isB0 a = true) : h.2.1 a = some (.inr 2) := by rw [isB0_in hb]; exact hI.atS rfl
theorem BB.brt {h : Hp} (hI : BB h) {a : Nat} (hb : isB0 a = true) : h.2.1 (a + 1) = some (.inl (1, bcap a)) := by rw [isB0_in hb]; exact hI.atS rfl
theorem BB.brow {h : Hp} (hI : BB h) {a : Nat} (hb : isB0 a = true) : h.2.2 a 0 = ((a + 1 : Nat) : Int) := by rw [isB0_in hb]; exact hI.atE rfl
theorem BB.blen {h : Hp} (hI : BB h) {a : Nat} (hb : isB0 a = true) : 0 ≤ h.2.2 a 1 ∧ h.2.2 a 1 ≤ bcap a ∧ bcap a ≤ 1200 := by
  rw [isB0_in hb]
  exact ⟨(hI.atR rfl).1, (hI.atR rfl).2, by decide⟩
theorem BB.wr9 {h : Hp} (hI : BB h) {a j : Nat} {x : Int} (ha : a < 60) (hx : ∀ lo hi, rg a j = some (lo, hi) → lo ≤ x ∧ x ≤ hi) : BB (wr h a j x) := by
  refine ⟨hI.1, hI.2.1, fun b i lo hi hb e => ?_, fun b i hb => (wr_ne (by omega)).trans (hI.2.2.2 b i hb)⟩
  rw [wr_if]
  by_cases h1 : b = a ∧ i = j
  · rw [if_pos h1]
    obtain ⟨rfl, rfl⟩ := h1
    exact hx lo hi e
  · rw [if_neg h1]
    exact hI.2.2.1 b i lo hi hb e
theorem BB.putB {h : Hp} (hI : BB h) {a : Nat} {x : Int} (hb : isB0 a = true) (hx : 0 ≤ x ∧ x ≤ bcap a) : BB (wr h a 1 x) := by
  have e := isB0_in hb
  subst e
  refine hI.wr9 (by decide) fun lo hi e => ?_
  cases (show some ((0 : Int), (20 : Int)) = some (lo, hi) from e)
  exact hx
theorem BB.putBr {h : Hp} (hI : BB h) {a j : Nat} {x : Int} (hb : isB0 a = true) (hx : -128 ≤ x ∧ x ≤ 127) : BB (wr h (a + 1) j x) := by
  have e := isB0_in hb
  subst e
  refine hI.wr9 (by decide) fun lo hi e => ?_
  cases (show some ((-128 : Int), (127 : Int)) = some (lo, hi) from e)
  exact hx
abbrev Q_X1_clear_v0 (h : Hp) (a : Nat) : Option V → Hp → Nat → Nat → Prop := RV (fun H => BB H ∧ Fr [a] h H ∧ (H.2.2 a 1 = 0))
set_option maxRecDepth 100000 in
theorem ct_X1_clear_v0 (l : Launch) (h : Hp) (hI : BB h) (a : Nat) (ha : isB0 a = true) : Ct l D_X1_clear 0 0 [.inr (.inr a)] h (Q_X1_clear_v0 h a) := by
  refine ct_of pn_X1_clear (Nat.le_of_ble_eq_true rfl) ?_
  show To l E_X1_clear (0, [(0, .inr (.inr a))], [], h, 0, 0) _
  refine to_aload_np (dat dk_X1_clear 0 rfl) (hI.pos ha) rfl (to_iconst (dat dk_X1_clear 1 rfl) (to_putIw p_c2_15 (dat dk_X1_clear 2 rfl) (hI.bty ha) ?_))
  intro h3 wh3
  have I1 : BB h3 := by rw [wh3]; exact hI.putB (x := 0) ha (by omega)
  have f2 : Fr [a] h h3 := by rw [wh3]; exact Fr.putB (j := 1) (x := 0) (Fr.rf _ _) (isB0_B ha) (contains1 _)
  have e4 : h3.2.2 a 1 = (0 : Int) := (by rw [wh3]; exact wr_eq)
  exact to_vret rfl (dat dk_X1_clear 3 rfl) (rv_mk ⟨I1, f2, (show h3.2.2 a 1 = 0 by omega)⟩)
abbrev Q_X1_put_v0 (h : Hp) (a : Nat) (b : Int) : Option V → Hp → Nat → Nat → Prop := RV (fun H => BB H ∧ Fr [a] h H ∧ (H.2.2 a 1 ≤ h.2.2 a 1 + 1))
set_option maxRecDepth 100000 in
theorem ct_X1_put_v0 (l : Launch) (h : Hp) (hI : BB h) (a : Nat) (ha : isB0 a = true) (b : Int) (hb : I32 b) : Ct l D_X1_put 0 0 [.inr (.inr a), .inl b] h (Q_X1_put_v0 h a b) := by
  refine ct_of pn_X1_put (Nat.le_of_ble_eq_true rfl) ?_
  show To l E_X1_put (0, [(0, .inr (.inr a)), (1, .inl b)], [], h, 0, 0) _
  refine to_aload_np (dat dk_X1_put 0 rfl) (hI.pos ha) rfl ?_
  obtain ⟨x1, ex1⟩ : ∃ y : Int, h.2.2 a 1 = y := ⟨_, rfl⟩
  have rx1 := hI.blen ha
  rw [ex1] at rx1
  refine to_getIv (y := x1) ex1 g_c2_15 (dat dk_X1_put 1 rfl) (hI.bty ha) ?_
  refine to_iflt 40 (dat dk_X1_put 2 rfl) rfl (by omega) (fun c2 => ?_) (fun c2 => ?_)
  · skip
    exact to_vret rfl (dat dk_X1_put 22 rfl) (rv_mk ⟨hI, (Fr.rf _ _), (show h.2.2 a 1 ≤ h.2.2 a 1 + 1 by omega)⟩)
  · skip
    refine to_aload_np (dat dk_X1_put 3 rfl) (hI.pos ha) rfl (to_getIv (y := x1) ex1 g_c2_15 (dat dk_X1_put 4 rfl) (hI.bty ha) (to_aload_np (dat dk_X1_put 5 rfl) (hI.pos ha) rfl (to_getR (a + 1) g_c2_9 (dat dk_X1_put 6 rfl) (hI.bty ha) (hI.brow ha) (to_alen (dat dk_X1_put 7 rfl) (hI.brt ha) (by decide) ?_))))
    refine to_ige 40 (dat dk_X1_put 8 rfl) rfl (by omega) (by omega) (fun c3 => ?_) (fun c3 => ?_)
    · skip
      exact to_vret rfl (dat dk_X1_put 22 rfl) (rv_mk ⟨hI, (Fr.rf _ _), (show h.2.2 a 1 ≤ h.2.2 a 1 + 1 by omega)⟩)
    · skip
      refine to_aload_np (dat dk_X1_put 9 rfl) (hI.pos ha) rfl (to_getR (a + 1) g_c2_9 (dat dk_X1_put 10 rfl) (hI.bty ha) (hI.brow ha) (to_aload_np (dat dk_X1_put 11 rfl) (hI.pos ha) rfl (to_getIv (y := x1) ex1 g_c2_15 (dat dk_X1_put 12 rfl) (hI.bty ha) (to_iload_n (dat dk_X1_put 13 rfl) rfl (to_i2b (dat dk_X1_put 14 rfl) (to_bastw (dat dk_X1_put 15 rfl) (hI.brt ha) rfl (bcap_n a) (by omega) ?_))))))
      intro h6 wh6
      have I4 : BB h6 := by rw [wh6]; exact hI.putBr (j := (Int.toNat x1)) (x := (b8 (b8 b))) ha (by have := b8_in (b8 b); omega)
      have f5 : Fr [a] h h6 := by rw [wh6]; exact Fr.putBr (j := (Int.toNat x1)) (x := (b8 (b8 b))) (Fr.rf _ _) (isB0_B ha) (contains1 _)
      refine to_aload_np (dat dk_X1_put 16 rfl) (I4.pos ha) rfl (to_dup (dat dk_X1_put 17 rfl) rfl (to_getIv (y := x1) (by rw [wh6]; exact (wr_ne (by omega)).trans ex1) g_c2_15 (dat dk_X1_put 18 rfl) (I4.bty ha) (to_iconst (dat dk_X1_put 19 rfl) (to_iadd (dat dk_X1_put 20 rfl) (to_putIw p_c2_15 (dat dk_X1_put 21 rfl) (I4.bty ha) ?_)))))
      intro h9 wh9
      have I7 : BB h9 := by rw [wh9]; exact I4.putB (x := (x1 + 1)) ha (by omega)
      have f8 : Fr [a] h h9 := by rw [wh9]; exact Fr.putB (j := 1) (x := (x1 + 1)) f5 (isB0_B ha) (contains1 _)
      have e10 : h9.2.2 a 1 = (x1 + 1) := (by rw [wh9]; exact wr_eq)
      exact to_vret rfl (dat dk_X1_put 22 rfl) (rv_mk ⟨I7, f8, (show h9.2.2 a 1 ≤ h.2.2 a 1 + 1 by omega)⟩)
abbrev Q_X1_putNumber_v0 (h : Hp) (a : Nat) (b : Int) : Option V → Hp → Nat → Nat → Prop := RV (fun H => BB H ∧ Fr [a] h H)
set_option maxRecDepth 100000 in
theorem ct_X1_putNumber_v0 (l : Launch) (h : Hp) (hI : BB h) (a : Nat) (ha : isB0 a = true) (b : Int) (hb : I32 b) : Ct l D_X1_putNumber 1 21 [.inr (.inr a), .inl b] h (Q_X1_putNumber_v0 h a b) := by
  refine ct_of pn_X1_putNumber (Nat.le_of_ble_eq_true rfl) ?_
  show To l E_X1_putNumber (0, [(0, .inr (.inr a)), (1, .inl b)], [], h, 0, 0) _
  refine to_aload_np (dat dk_X1_putNumber 0 rfl) (hI.pos ha) rfl (to_iload_n (dat dk_X1_putNumber 1 rfl) rfl (to_bipush (dat dk_X1_putNumber 2 rfl) (by decide) ?_))
  refine to_ishr (dat dk_X1_putNumber 3 rfl) (fun x1 rx1 => ?_)
  obtain ⟨x2, ex2⟩ : ∃ y : Int, h.2.2 a 1 = y := ⟨_, rfl⟩
  have rx2 := hI.blen ha
  rw [ex2] at rx2
  refine to_cV ca_c2_19 (dat dk_X1_putNumber 4 rfl) (ct_X1_put_v0 l h hI a ha x1 rx1) rfl ⟨_, _, rfl, (hI.bty ha)⟩ rfl (fun h4 p5 => ?_)
  obtain ⟨Ih4, fh4, p5_0⟩ := p5
  have f6 : Fr [a] h h4 := Fr.sub (Fr.rf _ _) fh4 (sub_self _)
  refine to_aload_np (dat dk_X1_putNumber 5 rfl) (Ih4.pos ha) rfl (to_iload_n (dat dk_X1_putNumber 6 rfl) rfl (to_bipush (dat dk_X1_putNumber 7 rfl) (by decide) ?_))
  refine to_ishr (dat dk_X1_putNumber 8 rfl) (fun x7 rx7 => ?_)
  obtain ⟨x8, ex8⟩ : ∃ y : Int, h4.2.2 a 1 = y := ⟨_, rfl⟩
  have rx8 := Ih4.blen ha
  rw [ex8] at rx8
  refine to_cV ca_c2_19 (dat dk_X1_putNumber 9 rfl) (ct_X1_put_v0 l h4 Ih4 a ha x7 rx7) rfl ⟨_, _, rfl, (Ih4.bty ha)⟩ rfl (fun h10 p11 => ?_)
  obtain ⟨Ih10, fh10, p11_0⟩ := p11
  have f12 : Fr [a] h h10 := Fr.sub f6 fh10 (sub_self _)
  refine to_aload_np (dat dk_X1_putNumber 10 rfl) (Ih10.pos ha) rfl (to_iload_n (dat dk_X1_putNumber 11 rfl) rfl (to_bipush (dat dk_X1_putNumber 12 rfl) (by decide) ?_))
  refine to_ishr (dat dk_X1_putNumber 13 rfl) (fun x13 rx13 => ?_)
  obtain ⟨x14, ex14⟩ : ∃ y : Int, h10.2.2 a 1 = y := ⟨_, rfl⟩
  have rx14 := Ih10.blen ha
  rw [ex14] at rx14
  refine to_cV ca_c2_19 (dat dk_X1_putNumber 14 rfl) (ct_X1_put_v0 l h10 Ih10 a ha x13 rx13) rfl ⟨_, _, rfl, (Ih10.bty ha)⟩ rfl (fun h16 p17 => ?_)
  obtain ⟨Ih16, fh16, p17_0⟩ := p17
  have f18 : Fr [a] h h16 := Fr.sub f12 fh16 (sub_self _)
  refine to_aload_np (dat dk_X1_putNumber 15 rfl) (Ih16.pos ha) rfl (to_iload_n (dat dk_X1_putNumber 16 rfl) rfl ?_)
  obtain ⟨x19, ex19⟩ : ∃ y : Int, h16.2.2 a 1 = y := ⟨_, rfl⟩
  have rx19 := Ih16.blen ha
  rw [ex19] at rx19
  refine to_cV ca_c2_19 (dat dk_X1_putNumber 17 rfl) (ct_X1_put_v0 l h16 Ih16 a ha b hb) rfl ⟨_, _, rfl, (Ih16.bty ha)⟩ rfl (fun h21 p22 => ?_)
  obtain ⟨Ih21, fh21, p22_0⟩ := p22
  have f23 : Fr [a] h h21 := Fr.sub f18 fh21 (sub_self _)
  exact to_vret rfl (dat dk_X1_putNumber 18 rfl) (rv_mk ⟨Ih21, f23⟩)
abbrev Q_X11_makeReady_v0 (h : Hp) (a : Int) (b : Int) (c : Int) (d : Int) (e : Int) : Option V → Hp → Nat → Nat → Prop := RV (fun H => BB H ∧ Fr [2] h H)
set_option maxRecDepth 100000 in
theorem ct_X11_makeReady_v0 (l : Launch) (h : Hp) (hI : BB h) (a : Int) (ha : I32 a) (b : Int) (hb : I32 b) (c : Int) (hc : I32 c) (d : Int) (hd : I32 d) (e : Int) (he : I32 e) : Ct l D_X11_makeReady 2 42 [.inr (.inr 1), .inl a, .inl b, .inl c, .inl d, .inl e] h (Q_X11_makeReady_v0 h a b c d e) := by
  refine ct_of pn_X11_makeReady (Nat.le_of_ble_eq_true rfl) ?_
  show To l E_X11_makeReady (0, [(0, .inr (.inr 1)), (1, .inl a), (2, .inl b), (3, .inl c), (4, .inl d), (5, .inl e)], [], h, 0, 0) _
  refine to_aload_n (dat dk_X11_makeReady 0 rfl) rfl (to_getR 2 g_c0_14 (dat dk_X11_makeReady 1 rfl) (hI.atS rfl) (hI.atE rfl) ?_)
  refine to_cV ca_c0_113 (dat dk_X11_makeReady 2 rfl) (ct_X1_clear_v0 l h hI 2 rfl) rfl ⟨_, _, rfl, (hI.atS rfl)⟩ rfl (fun h2 p3 => ?_)
  obtain ⟨Ih2, fh2, p3_0⟩ := p3
  have f4 : Fr [2] h h2 := Fr.sub (Fr.rf _ _) fh2 (sub_self _)
  obtain ⟨x5, ex5⟩ : ∃ y : Int, h2.2.2 2 1 = y := ⟨_, rfl⟩
  have rx5 := Ih2.atR (a := 2) (j := 1) rfl
  rw [ex5] at rx5
  refine to_aload_n (dat dk_X11_makeReady 3 rfl) rfl (to_getR 2 g_c0_14 (dat dk_X11_makeReady 4 rfl) (Ih2.atS rfl) (Ih2.atE rfl) (to_iload_n (dat dk_X11_makeReady 5 rfl) rfl ?_))
  refine to_cV ca_c0_243 (dat dk_X11_makeReady 6 rfl) (ct_X1_putNumber_v0 l h2 Ih2 2 rfl a ha) rfl ⟨_, _, rfl, (Ih2.atS rfl)⟩ rfl (fun h7 p8 => ?_)
  obtain ⟨Ih7, fh7⟩ := p8
  have f9 : Fr [2] h h7 := Fr.sub f4 fh7 (sub_self _)
  refine to_aload_n (dat dk_X11_makeReady 7 rfl) rfl (to_getR 2 g_c0_14 (dat dk_X11_makeReady 8 rfl) (Ih7.atS rfl) (Ih7.atE rfl) (to_iload_n (dat dk_X11_makeReady 9 rfl) rfl ?_))
  refine to_cV ca_c0_243 (dat dk_X11_makeReady 10 rfl) (ct_X1_putNumber_v0 l h7 Ih7 2 rfl b hb) rfl ⟨_, _, rfl, (Ih7.atS rfl)⟩ rfl (fun h11 p12 => ?_)
  obtain ⟨Ih11, fh11⟩ := p12
  have f13 : Fr [2] h h11 := Fr.sub f9 fh11 (sub_self _)
  refine to_aload_n (dat dk_X11_makeReady 11 rfl) rfl (to_getR 2 g_c0_14 (dat dk_X11_makeReady 12 rfl) (Ih11.atS rfl) (Ih11.atE rfl) (to_iload_n (dat dk_X11_makeReady 13 rfl) rfl ?_))
  refine to_cV ca_c0_243 (dat dk_X11_makeReady 14 rfl) (ct_X1_putNumber_v0 l h11 Ih11 2 rfl c hc) rfl ⟨_, _, rfl, (Ih11.atS rfl)⟩ rfl (fun h15 p16 => ?_)
  obtain ⟨Ih15, fh15⟩ := p16
  have f17 : Fr [2] h h15 := Fr.sub f13 fh15 (sub_self _)
  refine to_aload_n (dat dk_X11_makeReady 15 rfl) rfl (to_getR 2 g_c0_14 (dat dk_X11_makeReady 16 rfl) (Ih15.atS rfl) (Ih15.atE rfl) (to_iload (dat dk_X11_makeReady 17 rfl) rfl ?_))
  refine to_cV ca_c0_243 (dat dk_X11_makeReady 18 rfl) (ct_X1_putNumber_v0 l h15 Ih15 2 rfl d hd) rfl ⟨_, _, rfl, (Ih15.atS rfl)⟩ rfl (fun h19 p20 => ?_)
  obtain ⟨Ih19, fh19⟩ := p20
  have f21 : Fr [2] h h19 := Fr.sub f17 fh19 (sub_self _)
  refine to_aload_n (dat dk_X11_makeReady 19 rfl) rfl (to_getR 2 g_c0_14 (dat dk_X11_makeReady 20 rfl) (Ih19.atS rfl) (Ih19.atE rfl) (to_iload (dat dk_X11_makeReady 21 rfl) rfl ?_))
  refine to_cV ca_c0_243 (dat dk_X11_makeReady 22 rfl) (ct_X1_putNumber_v0 l h19 Ih19 2 rfl e he) rfl ⟨_, _, rfl, (Ih19.atS rfl)⟩ rfl (fun h23 p24 => ?_)
  obtain ⟨Ih23, fh23⟩ := p24
  have f25 : Fr [2] h h23 := Fr.sub f21 fh23 (sub_self _)
  exact to_vret rfl (dat dk_X11_makeReady 23 rfl) (rv_mk ⟨Ih23, f25⟩)
/-- what is written lies in its range; 0 does elsewhere -/
def rgW (W : List (Nat × Nat × Int)) (a : Nat) : Bool := match rgT[a]? with
  | none => true
  | some t => match t with
    | .inl q => (match q with
      | none => true
      | some r => decide (r.1 ≤ 0 ∧ 0 ≤ r.2)) && W.all (fun w => !(Nat.beq a w.1))
    | .inr l => (List.range l.length).all (fun j => match rg a j with
      | none => true
      | some r => decide (r.1 ≤ lkW W (fun _ _ => 0) a j ∧ lkW W (fun _ _ => 0) a j ≤ r.2))
theorem lkW_no {W : List (Nat × Nat × Int)} {f : Nat → Nat → Int} {a : Nat} (h : W.all (fun w => !(Nat.beq a w.1)) = true) (j : Nat) : lkW W f a j = f a j := by
  induction W with
  | nil => rfl
  | cons q r ih =>
    rw [List.all_cons, Bool.and_eq_true] at h
    have h1 : Nat.beq a q.1 = false := by simpa using h.1
    unfold lkW
    rw [h1]
    exact ih h.2
theorem rgW_ok {W : List (Nat × Nat × Int)} {a : Nat} (h : rgW W a = true) {j : Nat} {lo hi : Int} (e : rg a j = some (lo, hi)) : lo ≤ lkW W (fun _ _ => 0) a j ∧ lkW W (fun _ _ => 0) a j ≤ hi := by
  have e0 := e
  unfold rg at e
  unfold rgW at h
  cases ht : rgT[a]? with
  | none => rw [ht] at e; cases e
  | some t =>
    rw [ht] at e h
    rcases t with q | l
    · simp only at e h
      subst e
      rw [Bool.and_eq_true] at h
      rw [lkW_no h.2]
      exact of_decide_eq_true h.1
    · simp only at e h
      cases hl : l[j]? with
      | none => rw [hl] at e; cases e
      | some q =>
        have hj : j < l.length := (List.getElem?_eq_some_iff.mp hl).1
        have h1 := List.all_eq_true.mp h j (List.mem_range.mpr hj)
        rw [e0] at h1
        exact of_decide_eq_true h1
set_option maxRecDepth 100000 in
theorem rgA_all : (List.range 60).all (rgW WA_73) = true := by decide +kernel
theorem rgA_ok (a : Nat) (ha : a < 60) (j : Nat) (lo hi : Int) (e : rg a j = some (lo, hi)) : lo ≤ (hpx hp0 60 TA_60 WA_73).2.2 a j ∧ (hpx hp0 60 TA_60 WA_73).2.2 a j ≤ hi := rgW_ok (List.all_eq_true.mp rgA_all a (List.mem_range.mpr ha)) e
theorem bb_start : BB (hpx hp0 60 TA_60 WA_73) := by
  refine ⟨rfl, rfl, fun a j lo hi ha e => ?_, fun a j ha => ?_⟩
  · exact rgA_ok a (by omega) j lo hi e
  · refine lkW_no (f := fun _ _ => 0) (List.all_eq_true.mpr fun w hw => ?_) j
    have h1 : w.1 < 60 := of_decide_eq_true (List.all_eq_true.mp (show WA_73.all (fun w => decide (w.1 < 60)) = true by decide +kernel) w hw)
    cases hb : Nat.beq a w.1 with
    | false => rfl
    | true => have := Nat.eq_of_beq_eq_true hb; omega
theorem nw_c0_7 : NewOK RX11 7 2 := by
  refine ⟨_, _, _, rfl, ?_, ?_, ?_, ?_⟩
  · rfl
  · exact tin 1 40 (by decide +kernel) rfl
  · exact tin 1 41 (by decide +kernel) rfl
  · exact tin 1 2 (by decide +kernel) rfl
set_option maxRecDepth 100000 in
theorem nc_A1 (l : Launch) : Ct l D_X1_init 1 20 [.inr (.inr 2), .inl 20] (hpx hp0 3 TA_3 WA_0) (RVa (fun H mc ms => H = (hpx hp0 4 TA_4 WA_1) ∧ mc = 1 ∧ ms = 20)) := by
  refine ct_of pn_X1_init (Nat.le_of_ble_eq_true rfl) ?_
  show To l E_X1_init (0, [(0, .inr (.inr 2)), (1, .inl 20)], [], (hpx hp0 3 TA_3 WA_0), 0, 0) _
  refine to_aload_np (dat dk_X1_init 0 rfl) (by decide) rfl ?_
  refine to_obj (tin 1 45 (by decide +kernel) rfl) (tin 1 38 (by decide +kernel) rfl) (tin 1 39 (by decide +kernel) rfl) (dat dk_X1_init 1 rfl) rfl rfl ?_
  refine to_aload_np (dat dk_X1_init 2 rfl) (by decide) rfl ?_
  refine to_iload_n (dat dk_X1_init 3 rfl) rfl ?_
  refine to_ifle 13 (dat dk_X1_init 4 rfl) rfl (by decide) (fun c => absurd c (by decide)) (fun _ => ?_)
  refine to_iload_n (dat dk_X1_init 5 rfl) rfl ?_
  refine to_goto (t := 14) (dat dk_X1_init 6 rfl) rfl ?_
  refine to_newarray 1 rfl (by decide) rfl (tin 1 53 (by decide +kernel) rfl) (dat dk_X1_init 8 rfl) (by decide) (show (3 : Nat) < 1000000 by decide) ?_
  show To l E_X1_init (16, [(0, .inr (.inr 2)), (1, .inl 20)], [.inr (.inr 3), .inr (.inr 2)], (hpx hp0 4 TA_4 WA_0), 1, 20) _
  refine to_putR p_c2_9 (dat dk_X1_init 9 rfl) rfl ?_
  show To l E_X1_init (19, [(0, .inr (.inr 2)), (1, .inl 20)], [], (hpx hp0 4 TA_4 WA_1), 1, 20) _
  exact to_vret rfl (dat dk_X1_init 10 rfl) (rv_mka ⟨rfl, rfl, rfl⟩)
set_option maxRecDepth 100000 in
theorem nc_A2 (l : Launch) : Ct l D_X1_init 1 20 [.inr (.inr 4), .inl 1200] (hpx hp0 5 TA_5 WA_2) (RVa (fun H mc ms => H = (hpx hp0 6 TA_6 WA_3) ∧ mc = 1 ∧ ms = 1200)) := by
  refine ct_of pn_X1_init (Nat.le_of_ble_eq_true rfl) ?_
  show To l E_X1_init (0, [(0, .inr (.inr 4)), (1, .inl 1200)], [], (hpx hp0 5 TA_5 WA_2), 0, 0) _
  refine to_aload_np (dat dk_X1_init 0 rfl) (by decide) rfl ?_
  refine to_obj (tin 1 45 (by decide +kernel) rfl) (tin 1 38 (by decide +kernel) rfl) (tin 1 39 (by decide +kernel) rfl) (dat dk_X1_init 1 rfl) rfl rfl ?_
  refine to_aload_np (dat dk_X1_init 2 rfl) (by decide) rfl ?_
  refine to_iload_n (dat dk_X1_init 3 rfl) rfl ?_
  refine to_ifle 13 (dat dk_X1_init 4 rfl) rfl (by decide) (fun c => absurd c (by decide)) (fun _ => ?_)
  refine to_iload_n (dat dk_X1_init 5 rfl) rfl ?_
  refine to_goto (t := 14) (dat dk_X1_init 6 rfl) rfl ?_
  refine to_newarray 1 rfl (by decide) rfl (tin 1 53 (by decide +kernel) rfl) (dat dk_X1_init 8 rfl) (by decide) (show (5 : Nat) < 1000000 by decide) ?_
  show To l E_X1_init (16, [(0, .inr (.inr 4)), (1, .inl 1200)], [.inr (.inr 5), .inr (.inr 4)], (hpx hp0 6 TA_6 WA_2), 1, 1200) _
  refine to_putR p_c2_9 (dat dk_X1_init 9 rfl) rfl ?_
  show To l E_X1_init (19, [(0, .inr (.inr 4)), (1, .inl 1200)], [], (hpx hp0 6 TA_6 WA_3), 1, 1200) _
  exact to_vret rfl (dat dk_X1_init 10 rfl) (rv_mka ⟨rfl, rfl, rfl⟩)
set_option maxRecDepth 100000 in
theorem nc_A3 (l : Launch) : Ct l D_X1_init 1 20 [.inr (.inr 6), .inl 1200] (hpx hp0 7 TA_7 WA_4) (RVa (fun H mc ms => H = (hpx hp0 8 TA_8 WA_5) ∧ mc = 1 ∧ ms = 1200)) := by
  refine ct_of pn_X1_init (Nat.le_of_ble_eq_true rfl) ?_
  show To l E_X1_init (0, [(0, .inr (.inr 6)), (1, .inl 1200)], [], (hpx hp0 7 TA_7 WA_4), 0, 0) _
  refine to_aload_np (dat dk_X1_init 0 rfl) (by decide) rfl ?_
  refine to_obj (tin 1 45 (by decide +kernel) rfl) (tin 1 38 (by decide +kernel) rfl) (tin 1 39 (by decide +kernel) rfl) (dat dk_X1_init 1 rfl) rfl rfl ?_
  refine to_aload_np (dat dk_X1_init 2 rfl) (by decide) rfl ?_
  refine to_iload_n (dat dk_X1_init 3 rfl) rfl ?_
  refine to_ifle 13 (dat dk_X1_init 4 rfl) rfl (by decide) (fun c => absurd c (by decide)) (fun _ => ?_)
  refine to_iload_n (dat dk_X1_init 5 rfl) rfl ?_
  refine to_goto (t := 14) (dat dk_X1_init 6 rfl) rfl ?_
  refine to_newarray 1 rfl (by decide) rfl (tin 1 53 (by decide +kernel) rfl) (dat dk_X1_init 8 rfl) (by decide) (show (7 : Nat) < 1000000 by decide) ?_
  show To l E_X1_init (16, [(0, .inr (.inr 6)), (1, .inl 1200)], [.inr (.inr 7), .inr (.inr 6)], (hpx hp0 8 TA_8 WA_4), 1, 1200) _
  refine to_putR p_c2_9 (dat dk_X1_init 9 rfl) rfl ?_
  show To l E_X1_init (19, [(0, .inr (.inr 6)), (1, .inl 1200)], [], (hpx hp0 8 TA_8 WA_5), 1, 1200) _
  exact to_vret rfl (dat dk_X1_init 10 rfl) (rv_mka ⟨rfl, rfl, rfl⟩)
theorem nw_c0_24 : NewOK RX11 24 1 := by
  refine ⟨_, _, _, rfl, ?_, ?_, ?_, ?_⟩
  · rfl
  · exact tin 1 54 (by decide +kernel) rfl
  · exact tin 1 55 (by decide +kernel) rfl
  · exact tin 1 3 (by decide +kernel) rfl
set_option maxRecDepth 100000 in
theorem nc_A4 (l : Launch) : Ct l D_X0_init 1 20 [.inr (.inr 8)] (hpx hp0 9 TA_9 WA_6) (RVa (fun H mc ms => H = (hpx hp0 14 TA_14 WA_11) ∧ mc = 5 ∧ ms = 1729)) := by
  refine ct_of pn_X0_init (Nat.le_of_ble_eq_true rfl) ?_
  show To l E_X0_init (0, [(0, .inr (.inr 8))], [], (hpx hp0 9 TA_9 WA_6), 0, 0) _
  refine to_aload_np (dat dk_X0_init 0 rfl) (by decide) rfl ?_
  refine to_obj (tin 1 59 (by decide +kernel) rfl) (tin 1 38 (by decide +kernel) rfl) (tin 1 39 (by decide +kernel) rfl) (dat dk_X0_init 1 rfl) rfl rfl ?_
  refine to_aload_np (dat dk_X0_init 2 rfl) (by decide) rfl ?_
  refine to_sipush (dat dk_X0_init 3 rfl) (by decide) ?_
  refine to_newarray 0 rfl (by decide) rfl (tin 1 82 (by decide +kernel) rfl) (dat dk_X0_init 4 rfl) (by decide) (show (9 : Nat) < 1000000 by decide) ?_
  show To l E_X0_init (10, [(0, .inr (.inr 8))], [.inr (.inr 9), .inr (.inr 8)], (hpx hp0 10 TA_10 WA_6), 1, 1024) _
  refine to_putR p_c1_11 (dat dk_X0_init 5 rfl) rfl ?_
  show To l E_X0_init (13, [(0, .inr (.inr 8))], [], (hpx hp0 10 TA_10 WA_7), 1, 1024) _
  refine to_aload_np (dat dk_X0_init 6 rfl) (by decide) rfl ?_
  refine to_bipush (dat dk_X0_init 7 rfl) (by decide) ?_
  refine to_newarray 460 rfl (by decide) rfl (tin 1 82 (by decide +kernel) rfl) (dat dk_X0_init 8 rfl) (by decide) (show (10 : Nat) < 1000000 by decide) ?_
  show To l E_X0_init (18, [(0, .inr (.inr 8))], [.inr (.inr 10), .inr (.inr 8)], (hpx hp0 11 TA_11 WA_7), 2, 1088) _
  refine to_putR p_c1_15 (dat dk_X0_init 9 rfl) rfl ?_
  show To l E_X0_init (21, [(0, .inr (.inr 8))], [], (hpx hp0 11 TA_11 WA_8), 2, 1088) _
  refine to_aload_np (dat dk_X0_init 10 rfl) (by decide) rfl ?_
  refine to_bipush (dat dk_X0_init 11 rfl) (by decide) ?_
  refine to_newarray 60 rfl (by decide) rfl (tin 1 82 (by decide +kernel) rfl) (dat dk_X0_init 12 rfl) (by decide) (show (11 : Nat) < 1000000 by decide) ?_
  show To l E_X0_init (26, [(0, .inr (.inr 8))], [.inr (.inr 11), .inr (.inr 8)], (hpx hp0 12 TA_12 WA_8), 3, 1153) _
  refine to_putR p_c1_18 (dat dk_X0_init 13 rfl) rfl ?_
  show To l E_X0_init (29, [(0, .inr (.inr 8))], [], (hpx hp0 12 TA_12 WA_9), 3, 1153) _
  refine to_aload_np (dat dk_X0_init 14 rfl) (by decide) rfl ?_
  refine to_bipush (dat dk_X0_init 15 rfl) (by decide) ?_
  refine to_newarray 560 rfl (by decide) rfl (tin 1 82 (by decide +kernel) rfl) (dat dk_X0_init 16 rfl) (by decide) (show (12 : Nat) < 1000000 by decide) ?_
  show To l E_X0_init (34, [(0, .inr (.inr 8))], [.inr (.inr 12), .inr (.inr 8)], (hpx hp0 13 TA_13 WA_9), 4, 1217) _
  refine to_putR p_c1_21 (dat dk_X0_init 17 rfl) rfl ?_
  show To l E_X0_init (37, [(0, .inr (.inr 8))], [], (hpx hp0 13 TA_13 WA_10), 4, 1217) _
  refine to_aload_np (dat dk_X0_init 18 rfl) (by decide) rfl ?_
  refine to_sipush (dat dk_X0_init 19 rfl) (by decide) ?_
  refine to_newarray 661 rfl (by decide) rfl (tin 1 53 (by decide +kernel) rfl) (dat dk_X0_init 20 rfl) (by decide) (show (13 : Nat) < 1000000 by decide) ?_
  show To l E_X0_init (43, [(0, .inr (.inr 8))], [.inr (.inr 13), .inr (.inr 8)], (hpx hp0 14 TA_14 WA_10), 5, 1729) _
  refine to_putR p_c1_24 (dat dk_X0_init 21 rfl) rfl ?_
  show To l E_X0_init (46, [(0, .inr (.inr 8))], [], (hpx hp0 14 TA_14 WA_11), 5, 1729) _
  exact to_vret rfl (dat dk_X0_init 22 rfl) (rv_mka ⟨rfl, rfl, rfl⟩)
set_option maxRecDepth 100000 in
theorem nc_A5 (l : Launch) : Ct l D_X0_init 1 20 [.inr (.inr 14)] (hpx hp0 15 TA_15 WA_12) (RVa (fun H mc ms => H = (hpx hp0 20 TA_20 WA_17) ∧ mc = 5 ∧ ms = 1729)) := by
  refine ct_of pn_X0_init (Nat.le_of_ble_eq_true rfl) ?_
  show To l E_X0_init (0, [(0, .inr (.inr 14))], [], (hpx hp0 15 TA_15 WA_12), 0, 0) _
  refine to_aload_np (dat dk_X0_init 0 rfl) (by decide) rfl ?_
  refine to_obj (tin 1 59 (by decide +kernel) rfl) (tin 1 38 (by decide +kernel) rfl) (tin 1 39 (by decide +kernel) rfl) (dat dk_X0_init 1 rfl) rfl rfl ?_
  refine to_aload_np (dat dk_X0_init 2 rfl) (by decide) rfl ?_
  refine to_sipush (dat dk_X0_init 3 rfl) (by decide) ?_
  refine to_newarray 0 rfl (by decide) rfl (tin 1 82 (by decide +kernel) rfl) (dat dk_X0_init 4 rfl) (by decide) (show (15 : Nat) < 1000000 by decide) ?_
  show To l E_X0_init (10, [(0, .inr (.inr 14))], [.inr (.inr 15), .inr (.inr 14)], (hpx hp0 16 TA_16 WA_12), 1, 1024) _
  refine to_putR p_c1_11 (dat dk_X0_init 5 rfl) rfl ?_
  show To l E_X0_init (13, [(0, .inr (.inr 14))], [], (hpx hp0 16 TA_16 WA_13), 1, 1024) _
  refine to_aload_np (dat dk_X0_init 6 rfl) (by decide) rfl ?_
  refine to_bipush (dat dk_X0_init 7 rfl) (by decide) ?_
  refine to_newarray 470 rfl (by decide) rfl (tin 1 82 (by decide +kernel) rfl) (dat dk_X0_init 8 rfl) (by decide) (show (16 : Nat) < 1000000 by decide) ?_
  show To l E_X0_init (18, [(0, .inr (.inr 14))], [.inr (.inr 16), .inr (.inr 14)], (hpx hp0 17 TA_17 WA_13), 2, 1088) _
  refine to_putR p_c1_15 (dat dk_X0_init 9 rfl) rfl ?_
  show To l E_X0_init (21, [(0, .inr (.inr 14))], [], (hpx hp0 17 TA_17 WA_14), 2, 1088) _
  refine to_aload_np (dat dk_X0_init 10 rfl) (by decide) rfl ?_
  refine to_bipush (dat dk_X0_init 11 rfl) (by decide) ?_
  refine to_newarray 70 rfl (by decide) rfl (tin 1 82 (by decide +kernel) rfl) (dat dk_X0_init 12 rfl) (by decide) (show (17 : Nat) < 1000000 by decide) ?_
  show To l E_X0_init (26, [(0, .inr (.inr 14))], [.inr (.inr 17), .inr (.inr 14)], (hpx hp0 18 TA_18 WA_14), 3, 1153) _
  refine to_putR p_c1_18 (dat dk_X0_init 13 rfl) rfl ?_
  show To l E_X0_init (29, [(0, .inr (.inr 14))], [], (hpx hp0 18 TA_18 WA_15), 3, 1153) _
  refine to_aload_np (dat dk_X0_init 14 rfl) (by decide) rfl ?_
  refine to_bipush (dat dk_X0_init 15 rfl) (by decide) ?_
  refine to_newarray 570 rfl (by decide) rfl (tin 1 82 (by decide +kernel) rfl) (dat dk_X0_init 16 rfl) (by decide) (show (18 : Nat) < 1000000 by decide) ?_
  show To l E_X0_init (34, [(0, .inr (.inr 14))], [.inr (.inr 18), .inr (.inr 14)], (hpx hp0 19 TA_19 WA_15), 4, 1217) _
  refine to_putR p_c1_21 (dat dk_X0_init 17 rfl) rfl ?_
  show To l E_X0_init (37, [(0, .inr (.inr 14))], [], (hpx hp0 19 TA_19 WA_16), 4, 1217) _
  refine to_aload_np (dat dk_X0_init 18 rfl) (by decide) rfl ?_
  refine to_sipush (dat dk_X0_init 19 rfl) (by decide) ?_
  refine to_newarray 671 rfl (by decide) rfl (tin 1 53 (by decide +kernel) rfl) (dat dk_X0_init 20 rfl) (by decide) (show (19 : Nat) < 1000000 by decide) ?_
  show To l E_X0_init (43, [(0, .inr (.inr 14))], [.inr (.inr 19), .inr (.inr 14)], (hpx hp0 20 TA_20 WA_16), 5, 1729) _
  refine to_putR p_c1_24 (dat dk_X0_init 21 rfl) rfl ?_
  show To l E_X0_init (46, [(0, .inr (.inr 14))], [], (hpx hp0 20 TA_20 WA_17), 5, 1729) _
  exact to_vret rfl (dat dk_X0_init 22 rfl) (rv_mka ⟨rfl, rfl, rfl⟩)
set_option maxRecDepth 100000 in
theorem nc_A6 (l : Launch) : Ct l D_X0_init 1 20 [.inr (.inr 20)] (hpx hp0 21 TA_21 WA_18) (RVa (fun H mc ms => H = (hpx hp0 26 TA_26 WA_23) ∧ mc = 5 ∧ ms = 1729)) := by
  refine ct_of pn_X0_init (Nat.le_of_ble_eq_true rfl) ?_
  show To l E_X0_init (0, [(0, .inr (.inr 20))], [], (hpx hp0 21 TA_21 WA_18), 0, 0) _
  refine to_aload_np (dat dk_X0_init 0 rfl) (by decide) rfl ?_
  refine to_obj (tin 1 59 (by decide +kernel) rfl) (tin 1 38 (by decide +kernel) rfl) (tin 1 39 (by decide +kernel) rfl) (dat dk_X0_init 1 rfl) rfl rfl ?_
  refine to_aload_np (dat dk_X0_init 2 rfl) (by decide) rfl ?_
  refine to_sipush (dat dk_X0_init 3 rfl) (by decide) ?_
  refine to_newarray 0 rfl (by decide) rfl (tin 1 82 (by decide +kernel) rfl) (dat dk_X0_init 4 rfl) (by decide) (show (21 : Nat) < 1000000 by decide) ?_
  show To l E_X0_init (10, [(0, .inr (.inr 20))], [.inr (.inr 21), .inr (.inr 20)], (hpx hp0 22 TA_22 WA_18), 1, 1024) _
  refine to_putR p_c1_11 (dat dk_X0_init 5 rfl) rfl ?_
  show To l E_X0_init (13, [(0, .inr (.inr 20))], [], (hpx hp0 22 TA_22 WA_19), 1, 1024) _
  refine to_aload_np (dat dk_X0_init 6 rfl) (by decide) rfl ?_
  refine to_bipush (dat dk_X0_init 7 rfl) (by decide) ?_
  refine to_newarray 480 rfl (by decide) rfl (tin 1 82 (by decide +kernel) rfl) (dat dk_X0_init 8 rfl) (by decide) (show (22 : Nat) < 1000000 by decide) ?_
  show To l E_X0_init (18, [(0, .inr (.inr 20))], [.inr (.inr 22), .inr (.inr 20)], (hpx hp0 23 TA_23 WA_19), 2, 1088) _
  refine to_putR p_c1_15 (dat dk_X0_init 9 rfl) rfl ?_
  show To l E_X0_init (21, [(0, .inr (.inr 20))], [], (hpx hp0 23 TA_23 WA_20), 2, 1088) _
  refine to_aload_np (dat dk_X0_init 10 rfl) (by decide) rfl ?_
  refine to_bipush (dat dk_X0_init 11 rfl) (by decide) ?_
  refine to_newarray 80 rfl (by decide) rfl (tin 1 82 (by decide +kernel) rfl) (dat dk_X0_init 12 rfl) (by decide) (show (23 : Nat) < 1000000 by decide) ?_
  show To l E_X0_init (26, [(0, .inr (.inr 20))], [.inr (.inr 23), .inr (.inr 20)], (hpx hp0 24 TA_24 WA_20), 3, 1153) _
  refine to_putR p_c1_18 (dat dk_X0_init 13 rfl) rfl ?_
  show To l E_X0_init (29, [(0, .inr (.inr 20))], [], (hpx hp0 24 TA_24 WA_21), 3, 1153) _
  refine to_aload_np (dat dk_X0_init 14 rfl) (by decide) rfl ?_
  refine to_bipush (dat dk_X0_init 15 rfl) (by decide) ?_
  refine to_newarray 580 rfl (by decide) rfl (tin 1 82 (by decide +kernel) rfl) (dat dk_X0_init 16 rfl) (by decide) (show (24 : Nat) < 1000000 by decide) ?_
  show To l E_X0_init (34, [(0, .inr (.inr 20))], [.inr (.inr 24), .inr (.inr 20)], (hpx hp0 25 TA_25 WA_21), 4, 1217) _
  refine to_putR p_c1_21 (dat dk_X0_init 17 rfl) rfl ?_
  show To l E_X0_init (37, [(0, .inr (.inr 20))], [], (hpx hp0 25 TA_25 WA_22), 4, 1217) _
  refine to_aload_np (dat dk_X0_init 18 rfl) (by decide) rfl ?_
  refine to_sipush (dat dk_X0_init 19 rfl) (by decide) ?_
  refine to_newarray 681 rfl (by decide) rfl (tin 1 53 (by decide +kernel) rfl) (dat dk_X0_init 20 rfl) (by decide) (show (25 : Nat) < 1000000 by decide) ?_
  show To l E_X0_init (43, [(0, .inr (.inr 20))], [.inr (.inr 25), .inr (.inr 20)], (hpx hp0 26 TA_26 WA_22), 5, 1729) _
  refine to_putR p_c1_24 (dat dk_X0_init 21 rfl) rfl ?_
  show To l E_X0_init (46, [(0, .inr (.inr 20))], [], (hpx hp0 26 TA_26 WA_23), 5, 1729) _
  exact to_vret rfl (dat dk_X0_init 22 rfl) (rv_mka ⟨rfl, rfl, rfl⟩)
theorem nw_c0_37 : NewOK RX11 37 0 := by
  refine ⟨_, _, _, rfl, ?_, ?_, ?_, ?_⟩
  · rfl
  · exact tin 1 83 (by decide +kernel) rfl
  · exact tin 1 84 (by decide +kernel) rfl
  · exact tin 1 6 (by decide +kernel) rfl
set_option maxRecDepth 100000 in
theorem nc_A7 (l : Launch) : Ct l D_Jxa1e45_init_da8c8 1 20 [.inr (.inr 26)] (hpx hp0 27 TA_27 WA_24) (RVa (fun H mc ms => H = (hpx hp0 27 TA_27 WA_24) ∧ mc = 0 ∧ ms = 0)) := by
  refine ct_of pn_Jxa1e45_init_da8c8 (Nat.le_of_ble_eq_true rfl) ?_
  show To l E_Jxa1e45_init_da8c8 (0, [(0, .inr (.inr 26))], [], (hpx hp0 27 TA_27 WA_24), 0, 0) _
  refine to_aload_np (dat dk_Jxa1e45_init_da8c8 0 rfl) (by decide) rfl ?_
  refine to_obj (tin 1 94 (by decide +kernel) rfl) (tin 1 38 (by decide +kernel) rfl) (tin 1 39 (by decide +kernel) rfl) (dat dk_Jxa1e45_init_da8c8 1 rfl) rfl rfl ?_
  exact to_vret rfl (dat dk_Jxa1e45_init_da8c8 2 rfl) (rv_mka ⟨rfl, rfl, rfl⟩)
set_option maxRecDepth 100000 in
theorem nc_A8 (l : Launch) : Ct l D_Jxc12de_init_da8c8 2 40 [.inr (.inr 26)] (hpx hp0 27 TA_27 WA_24) (RVa (fun H mc ms => H = (hpx hp0 27 TA_27 WA_25) ∧ mc = 0 ∧ ms = 0)) := by
  refine ct_of pn_Jxc12de_init_da8c8 (Nat.le_of_ble_eq_true rfl) ?_
  show To l E_Jxc12de_init_da8c8 (0, [(0, .inr (.inr 26))], [], (hpx hp0 27 TA_27 WA_24), 0, 0) _
  refine to_aload_np (dat dk_Jxc12de_init_da8c8 0 rfl) (by decide) rfl ?_
  refine to_cVa ca_c27_1 (dat dk_Jxc12de_init_da8c8 1 rfl) (nc_A7 l) rfl ⟨26, .inr 0, _, rfl, rfl⟩ rfl (fun H mc ms p => ?_)
  obtain ⟨rfl, rfl, rfl⟩ := p
  show To l E_Jxc12de_init_da8c8 (4, [(0, .inr (.inr 26))], [], (hpx hp0 27 TA_27 WA_24), 0, 0) _
  refine to_aload_np (dat dk_Jxc12de_init_da8c8 2 rfl) (by decide) rfl ?_
  refine to_iconst (dat dk_Jxc12de_init_da8c8 3 rfl) ?_
  refine to_putI p_c27_7 (dat dk_Jxc12de_init_da8c8 4 rfl) rfl ?_
  show To l E_Jxc12de_init_da8c8 (9, [(0, .inr (.inr 26))], [], (hpx hp0 27 TA_27 WA_25), 0, 0) _
  exact to_vret rfl (dat dk_Jxc12de_init_da8c8 5 rfl) (rv_mka ⟨rfl, rfl, rfl⟩)
set_option maxRecDepth 100000 in
theorem nc_A9 (l : Launch) : Ct l D_Jx4a65c_init_da8c8 3 60 [.inr (.inr 26)] (hpx hp0 27 TA_27 WA_24) (RVa (fun H mc ms => H = (hpx hp0 27 TA_27 WA_26) ∧ mc = 0 ∧ ms = 0)) := by
  refine ct_of pn_Jx4a65c_init_da8c8 (Nat.le_of_ble_eq_true rfl) ?_
  show To l E_Jx4a65c_init_da8c8 (0, [(0, .inr (.inr 26))], [], (hpx hp0 27 TA_27 WA_24), 0, 0) _
  refine to_aload_np (dat dk_Jx4a65c_init_da8c8 0 rfl) (by decide) rfl ?_
  refine to_cVa ca_c28_1 (dat dk_Jx4a65c_init_da8c8 1 rfl) (nc_A8 l) rfl ⟨26, .inr 0, _, rfl, rfl⟩ rfl (fun H mc ms p => ?_)
  obtain ⟨rfl, rfl, rfl⟩ := p
  show To l E_Jx4a65c_init_da8c8 (4, [(0, .inr (.inr 26))], [], (hpx hp0 27 TA_27 WA_25), 0, 0) _
  refine to_aload_np (dat dk_Jx4a65c_init_da8c8 2 rfl) (by decide) rfl ?_
  refine to_gst (C := "java/util/ArrayList") (f9 := "DEFAULTCAPACITY_EMPTY_ELEMENTDATA") (d9 := "[Ljava/lang/Object;") (List.mem_of_getElem? (i := 0) rfl) (tin 1 95 (by decide +kernel) rfl) (dat dk_Jx4a65c_init_da8c8 3 rfl) ?_
  refine to_putR p_c28_9 (dat dk_Jx4a65c_init_da8c8 4 rfl) rfl ?_
  show To l E_Jx4a65c_init_da8c8 (11, [(0, .inr (.inr 26))], [], (hpx hp0 27 TA_27 WA_26), 0, 0) _
  exact to_vret rfl (dat dk_Jx4a65c_init_da8c8 5 rfl) (rv_mka ⟨rfl, rfl, rfl⟩)
theorem nw_c0_44 : NewOK RX11 44 8 := by
  refine ⟨_, _, _, rfl, ?_, ?_, ?_, ?_⟩
  · rfl
  · exact tin 1 109 (by decide +kernel) rfl
  · exact tin 1 110 (by decide +kernel) rfl
  · exact tin 1 7 (by decide +kernel) rfl
set_option maxRecDepth 100000 in
theorem nc_A10 (l : Launch) : Ct l D_X10_init 1 20 [.inr (.inr 27), .inr (.inr 26), .inr (.inr 14)] (hpx hp0 28 TA_28 WA_27) (RVa (fun H mc ms => H = (hpx hp0 32 TA_32 WA_33) ∧ mc = 4 ∧ ms = 10440)) := by
  refine ct_of pn_X10_init (Nat.le_of_ble_eq_true rfl) ?_
  show To l E_X10_init (0, [(0, .inr (.inr 27)), (1, .inr (.inr 26)), (2, .inr (.inr 14))], [], (hpx hp0 28 TA_28 WA_27), 0, 0) _
  refine to_aload_np (dat dk_X10_init 0 rfl) (by decide) rfl ?_
  refine to_obj (tin 1 114 (by decide +kernel) rfl) (tin 1 38 (by decide +kernel) rfl) (tin 1 39 (by decide +kernel) rfl) (dat dk_X10_init 1 rfl) rfl rfl ?_
  refine to_aload_np (dat dk_X10_init 2 rfl) (by decide) rfl ?_
  refine to_sipush (dat dk_X10_init 3 rfl) (by decide) ?_
  refine to_newarray 0 rfl (by decide) rfl (tin 1 82 (by decide +kernel) rfl) (dat dk_X10_init 4 rfl) (by decide) (show (28 : Nat) < 1000000 by decide) ?_
  show To l E_X10_init (10, [(0, .inr (.inr 27)), (1, .inr (.inr 26)), (2, .inr (.inr 14))], [.inr (.inr 28), .inr (.inr 27)], (hpx hp0 29 TA_29 WA_27), 1, 3460) _
  refine to_putR p_c11_11 (dat dk_X10_init 5 rfl) rfl ?_
  show To l E_X10_init (13, [(0, .inr (.inr 27)), (1, .inr (.inr 26)), (2, .inr (.inr 14))], [], (hpx hp0 29 TA_29 WA_28), 1, 3460) _
  refine to_aload_np (dat dk_X10_init 6 rfl) (by decide) rfl ?_
  refine to_sipush (dat dk_X10_init 7 rfl) (by decide) ?_
  refine to_newarray 0 rfl (by decide) rfl (tin 1 82 (by decide +kernel) rfl) (dat dk_X10_init 8 rfl) (by decide) (show (29 : Nat) < 1000000 by decide) ?_
  show To l E_X10_init (19, [(0, .inr (.inr 27)), (1, .inr (.inr 26)), (2, .inr (.inr 14))], [.inr (.inr 29), .inr (.inr 27)], (hpx hp0 30 TA_30 WA_28), 2, 6920) _
  refine to_putR p_c11_15 (dat dk_X10_init 9 rfl) rfl ?_
  show To l E_X10_init (22, [(0, .inr (.inr 27)), (1, .inr (.inr 26)), (2, .inr (.inr 14))], [], (hpx hp0 30 TA_30 WA_29), 2, 6920) _
  refine to_aload_np (dat dk_X10_init 10 rfl) (by decide) rfl ?_
  refine to_sipush (dat dk_X10_init 11 rfl) (by decide) ?_
  refine to_newarray 0 rfl (by decide) rfl (tin 1 82 (by decide +kernel) rfl) (dat dk_X10_init 12 rfl) (by decide) (show (30 : Nat) < 1000000 by decide) ?_
  show To l E_X10_init (28, [(0, .inr (.inr 27)), (1, .inr (.inr 26)), (2, .inr (.inr 14))], [.inr (.inr 30), .inr (.inr 27)], (hpx hp0 31 TA_31 WA_29), 3, 10380) _
  refine to_putR p_c11_18 (dat dk_X10_init 13 rfl) rfl ?_
  show To l E_X10_init (31, [(0, .inr (.inr 27)), (1, .inr (.inr 26)), (2, .inr (.inr 14))], [], (hpx hp0 31 TA_31 WA_30), 3, 10380) _
  refine to_aload_np (dat dk_X10_init 14 rfl) (by decide) rfl ?_
  refine to_bipush (dat dk_X10_init 15 rfl) (by decide) ?_
  refine to_newarray 0 rfl (by decide) rfl (tin 1 82 (by decide +kernel) rfl) (dat dk_X10_init 16 rfl) (by decide) (show (31 : Nat) < 1000000 by decide) ?_
  show To l E_X10_init (36, [(0, .inr (.inr 27)), (1, .inr (.inr 26)), (2, .inr (.inr 14))], [.inr (.inr 31), .inr (.inr 27)], (hpx hp0 32 TA_32 WA_30), 4, 10440) _
  refine to_putR p_c11_21 (dat dk_X10_init 17 rfl) rfl ?_
  show To l E_X10_init (39, [(0, .inr (.inr 27)), (1, .inr (.inr 26)), (2, .inr (.inr 14))], [], (hpx hp0 32 TA_32 WA_31), 4, 10440) _
  refine to_aload_np (dat dk_X10_init 18 rfl) (by decide) rfl ?_
  refine to_aload_np (dat dk_X10_init 19 rfl) (by decide) rfl ?_
  refine to_putR p_c11_24 (dat dk_X10_init 20 rfl) rfl ?_
  show To l E_X10_init (44, [(0, .inr (.inr 27)), (1, .inr (.inr 26)), (2, .inr (.inr 14))], [], (hpx hp0 32 TA_32 WA_32), 4, 10440) _
  refine to_aload_np (dat dk_X10_init 21 rfl) (by decide) rfl ?_
  refine to_aload_np (dat dk_X10_init 22 rfl) (by decide) rfl ?_
  refine to_putR p_c11_28 (dat dk_X10_init 23 rfl) rfl ?_
  show To l E_X10_init (49, [(0, .inr (.inr 27)), (1, .inr (.inr 26)), (2, .inr (.inr 14))], [], (hpx hp0 32 TA_32 WA_33), 4, 10440) _
  exact to_vret rfl (dat dk_X10_init 24 rfl) (rv_mka ⟨rfl, rfl, rfl⟩)
theorem nw_c0_53 : NewOK RX11 53 6 := by
  refine ⟨_, _, _, rfl, ?_, ?_, ?_, ?_⟩
  · rfl
  · exact tin 1 137 (by decide +kernel) rfl
  · exact tin 1 138 (by decide +kernel) rfl
  · exact tin 1 8 (by decide +kernel) rfl
theorem nw_c8_9 : NewOK RX7 9 2 := by
  refine ⟨_, _, _, rfl, ?_, ?_, ?_, ?_⟩
  · rfl
  · exact tin 1 143 (by decide +kernel) rfl
  · exact tin 1 41 (by decide +kernel) rfl
  · exact tin 1 2 (by decide +kernel) rfl
set_option maxRecDepth 100000 in
theorem nc_A11 (l : Launch) : Ct l D_X1_init 1 20 [.inr (.inr 33), .inl 1200] (hpx hp0 34 TA_34 WA_34) (RVa (fun H mc ms => H = (hpx hp0 35 TA_35 WA_35) ∧ mc = 1 ∧ ms = 1200)) := by
  refine ct_of pn_X1_init (Nat.le_of_ble_eq_true rfl) ?_
  show To l E_X1_init (0, [(0, .inr (.inr 33)), (1, .inl 1200)], [], (hpx hp0 34 TA_34 WA_34), 0, 0) _
  refine to_aload_np (dat dk_X1_init 0 rfl) (by decide) rfl ?_
  refine to_obj (tin 1 45 (by decide +kernel) rfl) (tin 1 38 (by decide +kernel) rfl) (tin 1 39 (by decide +kernel) rfl) (dat dk_X1_init 1 rfl) rfl rfl ?_
  refine to_aload_np (dat dk_X1_init 2 rfl) (by decide) rfl ?_
  refine to_iload_n (dat dk_X1_init 3 rfl) rfl ?_
  refine to_ifle 13 (dat dk_X1_init 4 rfl) rfl (by decide) (fun c => absurd c (by decide)) (fun _ => ?_)
  refine to_iload_n (dat dk_X1_init 5 rfl) rfl ?_
  refine to_goto (t := 14) (dat dk_X1_init 6 rfl) rfl ?_
  refine to_newarray 1 rfl (by decide) rfl (tin 1 53 (by decide +kernel) rfl) (dat dk_X1_init 8 rfl) (by decide) (show (34 : Nat) < 1000000 by decide) ?_
  show To l E_X1_init (16, [(0, .inr (.inr 33)), (1, .inl 1200)], [.inr (.inr 34), .inr (.inr 33)], (hpx hp0 35 TA_35 WA_34), 1, 1200) _
  refine to_putR p_c2_9 (dat dk_X1_init 9 rfl) rfl ?_
  show To l E_X1_init (19, [(0, .inr (.inr 33)), (1, .inl 1200)], [], (hpx hp0 35 TA_35 WA_35), 1, 1200) _
  exact to_vret rfl (dat dk_X1_init 10 rfl) (rv_mka ⟨rfl, rfl, rfl⟩)
set_option maxRecDepth 100000 in
theorem nc_A12 (l : Launch) : Ct l D_X1_init 1 20 [.inr (.inr 35), .inl 1200] (hpx hp0 36 TA_36 WA_36) (RVa (fun H mc ms => H = (hpx hp0 37 TA_37 WA_37) ∧ mc = 1 ∧ ms = 1200)) := by
  refine ct_of pn_X1_init (Nat.le_of_ble_eq_true rfl) ?_
  show To l E_X1_init (0, [(0, .inr (.inr 35)), (1, .inl 1200)], [], (hpx hp0 36 TA_36 WA_36), 0, 0) _
  refine to_aload_np (dat dk_X1_init 0 rfl) (by decide) rfl ?_
  refine to_obj (tin 1 45 (by decide +kernel) rfl) (tin 1 38 (by decide +kernel) rfl) (tin 1 39 (by decide +kernel) rfl) (dat dk_X1_init 1 rfl) rfl rfl ?_
  refine to_aload_np (dat dk_X1_init 2 rfl) (by decide) rfl ?_
  refine to_iload_n (dat dk_X1_init 3 rfl) rfl ?_
  refine to_ifle 13 (dat dk_X1_init 4 rfl) rfl (by decide) (fun c => absurd c (by decide)) (fun _ => ?_)
  refine to_iload_n (dat dk_X1_init 5 rfl) rfl ?_
  refine to_goto (t := 14) (dat dk_X1_init 6 rfl) rfl ?_
  refine to_newarray 1 rfl (by decide) rfl (tin 1 53 (by decide +kernel) rfl) (dat dk_X1_init 8 rfl) (by decide) (show (36 : Nat) < 1000000 by decide) ?_
  show To l E_X1_init (16, [(0, .inr (.inr 35)), (1, .inl 1200)], [.inr (.inr 36), .inr (.inr 35)], (hpx hp0 37 TA_37 WA_36), 1, 1200) _
  refine to_putR p_c2_9 (dat dk_X1_init 9 rfl) rfl ?_
  show To l E_X1_init (19, [(0, .inr (.inr 35)), (1, .inl 1200)], [], (hpx hp0 37 TA_37 WA_37), 1, 1200) _
  exact to_vret rfl (dat dk_X1_init 10 rfl) (rv_mka ⟨rfl, rfl, rfl⟩)
set_option maxRecDepth 100000 in
theorem nc_A13 (l : Launch) : Ct l D_X1_init 1 20 [.inr (.inr 37), .inl 16] (hpx hp0 38 TA_38 WA_38) (RVa (fun H mc ms => H = (hpx hp0 39 TA_39 WA_39) ∧ mc = 1 ∧ ms = 16)) := by
  refine ct_of pn_X1_init (Nat.le_of_ble_eq_true rfl) ?_
  show To l E_X1_init (0, [(0, .inr (.inr 37)), (1, .inl 16)], [], (hpx hp0 38 TA_38 WA_38), 0, 0) _
  refine to_aload_np (dat dk_X1_init 0 rfl) (by decide) rfl ?_
  refine to_obj (tin 1 45 (by decide +kernel) rfl) (tin 1 38 (by decide +kernel) rfl) (tin 1 39 (by decide +kernel) rfl) (dat dk_X1_init 1 rfl) rfl rfl ?_
  refine to_aload_np (dat dk_X1_init 2 rfl) (by decide) rfl ?_
  refine to_iload_n (dat dk_X1_init 3 rfl) rfl ?_
  refine to_ifle 13 (dat dk_X1_init 4 rfl) rfl (by decide) (fun c => absurd c (by decide)) (fun _ => ?_)
  refine to_iload_n (dat dk_X1_init 5 rfl) rfl ?_
  refine to_goto (t := 14) (dat dk_X1_init 6 rfl) rfl ?_
  refine to_newarray 1 rfl (by decide) rfl (tin 1 53 (by decide +kernel) rfl) (dat dk_X1_init 8 rfl) (by decide) (show (38 : Nat) < 1000000 by decide) ?_
  show To l E_X1_init (16, [(0, .inr (.inr 37)), (1, .inl 16)], [.inr (.inr 38), .inr (.inr 37)], (hpx hp0 39 TA_39 WA_38), 1, 16) _
  refine to_putR p_c2_9 (dat dk_X1_init 9 rfl) rfl ?_
  show To l E_X1_init (19, [(0, .inr (.inr 37)), (1, .inl 16)], [], (hpx hp0 39 TA_39 WA_39), 1, 16) _
  exact to_vret rfl (dat dk_X1_init 10 rfl) (rv_mka ⟨rfl, rfl, rfl⟩)
set_option maxRecDepth 100000 in
theorem nc_A14 (l : Launch) : Ct l D_X1_init 1 20 [.inr (.inr 39), .inl 41] (hpx hp0 40 TA_40 WA_40) (RVa (fun H mc ms => H = (hpx hp0 41 TA_41 WA_41) ∧ mc = 1 ∧ ms = 41)) := by
  refine ct_of pn_X1_init (Nat.le_of_ble_eq_true rfl) ?_
  show To l E_X1_init (0, [(0, .inr (.inr 39)), (1, .inl 41)], [], (hpx hp0 40 TA_40 WA_40), 0, 0) _
  refine to_aload_np (dat dk_X1_init 0 rfl) (by decide) rfl ?_
  refine to_obj (tin 1 45 (by decide +kernel) rfl) (tin 1 38 (by decide +kernel) rfl) (tin 1 39 (by decide +kernel) rfl) (dat dk_X1_init 1 rfl) rfl rfl ?_
  refine to_aload_np (dat dk_X1_init 2 rfl) (by decide) rfl ?_
  refine to_iload_n (dat dk_X1_init 3 rfl) rfl ?_
  refine to_ifle 13 (dat dk_X1_init 4 rfl) rfl (by decide) (fun c => absurd c (by decide)) (fun _ => ?_)
  refine to_iload_n (dat dk_X1_init 5 rfl) rfl ?_
  refine to_goto (t := 14) (dat dk_X1_init 6 rfl) rfl ?_
  refine to_newarray 1 rfl (by decide) rfl (tin 1 53 (by decide +kernel) rfl) (dat dk_X1_init 8 rfl) (by decide) (show (40 : Nat) < 1000000 by decide) ?_
  show To l E_X1_init (16, [(0, .inr (.inr 39)), (1, .inl 41)], [.inr (.inr 40), .inr (.inr 39)], (hpx hp0 41 TA_41 WA_40), 1, 41) _
  refine to_putR p_c2_9 (dat dk_X1_init 9 rfl) rfl ?_
  show To l E_X1_init (19, [(0, .inr (.inr 39)), (1, .inl 41)], [], (hpx hp0 41 TA_41 WA_41), 1, 41) _
  exact to_vret rfl (dat dk_X1_init 10 rfl) (rv_mka ⟨rfl, rfl, rfl⟩)
theorem nw_c8_55 : NewOK RX7 55 3 := by
  refine ⟨_, _, _, rfl, ?_, ?_, ?_, ?_⟩
  · rfl
  · exact tin 1 145 (by decide +kernel) rfl
  · exact tin 1 146 (by decide +kernel) rfl
  · exact tin 1 9 (by decide +kernel) rfl
set_option maxRecDepth 100000 in
theorem nc_A15 (l : Launch) : Ct l D_X4_init 1 20 [.inr (.inr 46), .inr (.inr 4)] (hpx hp0 47 TA_47 WA_50) (RVa (fun H mc ms => H = (hpx hp0 49 TA_49 WA_53) ∧ mc = 2 ∧ ms = 18)) := by
  refine ct_of pn_X4_init (Nat.le_of_ble_eq_true rfl) ?_
  show To l E_X4_init (0, [(0, .inr (.inr 46)), (1, .inr (.inr 4))], [], (hpx hp0 47 TA_47 WA_50), 0, 0) _
  refine to_aload_np (dat dk_X4_init 0 rfl) (by decide) rfl ?_
  refine to_obj (tin 1 150 (by decide +kernel) rfl) (tin 1 38 (by decide +kernel) rfl) (tin 1 39 (by decide +kernel) rfl) (dat dk_X4_init 1 rfl) rfl rfl ?_
  refine to_aload_np (dat dk_X4_init 2 rfl) (by decide) rfl ?_
  refine to_bipush (dat dk_X4_init 3 rfl) (by decide) ?_
  refine to_newarray 0 rfl (by decide) rfl (tin 1 82 (by decide +kernel) rfl) (dat dk_X4_init 4 rfl) (by decide) (show (47 : Nat) < 1000000 by decide) ?_
  show To l E_X4_init (9, [(0, .inr (.inr 46)), (1, .inr (.inr 4))], [.inr (.inr 47), .inr (.inr 46)], (hpx hp0 48 TA_48 WA_50), 1, 9) _
  refine to_putR p_c5_11 (dat dk_X4_init 5 rfl) rfl ?_
  show To l E_X4_init (12, [(0, .inr (.inr 46)), (1, .inr (.inr 4))], [], (hpx hp0 48 TA_48 WA_51), 1, 9) _
  refine to_aload_np (dat dk_X4_init 6 rfl) (by decide) rfl ?_
  refine to_bipush (dat dk_X4_init 7 rfl) (by decide) ?_
  refine to_newarray 0 rfl (by decide) rfl (tin 1 82 (by decide +kernel) rfl) (dat dk_X4_init 8 rfl) (by decide) (show (48 : Nat) < 1000000 by decide) ?_
  show To l E_X4_init (17, [(0, .inr (.inr 46)), (1, .inr (.inr 4))], [.inr (.inr 48), .inr (.inr 46)], (hpx hp0 49 TA_49 WA_51), 2, 18) _
  refine to_putR p_c5_15 (dat dk_X4_init 9 rfl) rfl ?_
  show To l E_X4_init (20, [(0, .inr (.inr 46)), (1, .inr (.inr 4))], [], (hpx hp0 49 TA_49 WA_52), 2, 18) _
  refine to_aload_np (dat dk_X4_init 10 rfl) (by decide) rfl ?_
  refine to_aload_np (dat dk_X4_init 11 rfl) (by decide) rfl ?_
  refine to_putR p_c5_18 (dat dk_X4_init 12 rfl) rfl ?_
  show To l E_X4_init (25, [(0, .inr (.inr 46)), (1, .inr (.inr 4))], [], (hpx hp0 49 TA_49 WA_53), 2, 18) _
  exact to_vret rfl (dat dk_X4_init 13 rfl) (rv_mka ⟨rfl, rfl, rfl⟩)
set_option maxRecDepth 100000 in
theorem nc_A16 (l : Launch) : Ct l D_X7_init 2 41 [.inr (.inr 32), .inr (.inr 4), .inr (.inr 8), .inr (.inr 14)] (hpx hp0 33 TA_33 WA_34) (RVa (fun H mc ms => H = (hpx hp0 49 TA_49 WA_54) ∧ mc = 16 ∧ ms = 4907)) := by
  refine ct_of pn_X7_init (Nat.le_of_ble_eq_true rfl) ?_
  show To l E_X7_init (0, [(0, .inr (.inr 32)), (1, .inr (.inr 4)), (2, .inr (.inr 8)), (3, .inr (.inr 14))], [], (hpx hp0 33 TA_33 WA_34), 0, 0) _
  refine to_aload_np (dat dk_X7_init 0 rfl) (by decide) rfl ?_
  refine to_obj (tin 1 142 (by decide +kernel) rfl) (tin 1 38 (by decide +kernel) rfl) (tin 1 39 (by decide +kernel) rfl) (dat dk_X7_init 1 rfl) rfl rfl ?_
  refine to_aload_np (dat dk_X7_init 2 rfl) (by decide) rfl ?_
  refine to_new nw_c8_9 (dat dk_X7_init 3 rfl) (show (33 : Nat) < 1000000 by decide) ?_
  show To l E_X7_init (8, [(0, .inr (.inr 32)), (1, .inr (.inr 4)), (2, .inr (.inr 8)), (3, .inr (.inr 14))], [.inr (.inr 33), .inr (.inr 32)], (hpx hp0 34 TA_34 WA_34), 1, 2) _
  refine to_dup (dat dk_X7_init 4 rfl) rfl ?_
  refine to_sipush (dat dk_X7_init 5 rfl) (by decide) ?_
  refine to_cVa ca_c8_11 (dat dk_X7_init 6 rfl) (nc_A11 l) rfl ⟨33, .inr 2, _, rfl, rfl⟩ rfl (fun H mc ms p => ?_)
  obtain ⟨rfl, rfl, rfl⟩ := p
  show To l E_X7_init (15, [(0, .inr (.inr 32)), (1, .inr (.inr 4)), (2, .inr (.inr 8)), (3, .inr (.inr 14))], [.inr (.inr 33), .inr (.inr 32)], (hpx hp0 35 TA_35 WA_35), 2, 1202) _
  refine to_putR p_c8_14 (dat dk_X7_init 7 rfl) rfl ?_
  show To l E_X7_init (18, [(0, .inr (.inr 32)), (1, .inr (.inr 4)), (2, .inr (.inr 8)), (3, .inr (.inr 14))], [], (hpx hp0 35 TA_35 WA_36), 2, 1202) _
  refine to_aload_np (dat dk_X7_init 8 rfl) (by decide) rfl ?_
  refine to_new nw_c8_9 (dat dk_X7_init 9 rfl) (show (35 : Nat) < 1000000 by decide) ?_
  show To l E_X7_init (22, [(0, .inr (.inr 32)), (1, .inr (.inr 4)), (2, .inr (.inr 8)), (3, .inr (.inr 14))], [.inr (.inr 35), .inr (.inr 32)], (hpx hp0 36 TA_36 WA_36), 3, 1204) _
  refine to_dup (dat dk_X7_init 10 rfl) rfl ?_
  refine to_sipush (dat dk_X7_init 11 rfl) (by decide) ?_
  refine to_cVa ca_c8_11 (dat dk_X7_init 12 rfl) (nc_A12 l) rfl ⟨35, .inr 2, _, rfl, rfl⟩ rfl (fun H mc ms p => ?_)
  obtain ⟨rfl, rfl, rfl⟩ := p
  show To l E_X7_init (29, [(0, .inr (.inr 32)), (1, .inr (.inr 4)), (2, .inr (.inr 8)), (3, .inr (.inr 14))], [.inr (.inr 35), .inr (.inr 32)], (hpx hp0 37 TA_37 WA_37), 4, 2404) _
  refine to_putR p_c8_20 (dat dk_X7_init 13 rfl) rfl ?_
  show To l E_X7_init (32, [(0, .inr (.inr 32)), (1, .inr (.inr 4)), (2, .inr (.inr 8)), (3, .inr (.inr 14))], [], (hpx hp0 37 TA_37 WA_38), 4, 2404) _
  refine to_aload_np (dat dk_X7_init 14 rfl) (by decide) rfl ?_
  refine to_new nw_c8_9 (dat dk_X7_init 15 rfl) (show (37 : Nat) < 1000000 by decide) ?_
  show To l E_X7_init (36, [(0, .inr (.inr 32)), (1, .inr (.inr 4)), (2, .inr (.inr 8)), (3, .inr (.inr 14))], [.inr (.inr 37), .inr (.inr 32)], (hpx hp0 38 TA_38 WA_38), 5, 2406) _
  refine to_dup (dat dk_X7_init 16 rfl) rfl ?_
  refine to_bipush (dat dk_X7_init 17 rfl) (by decide) ?_
  refine to_cVa ca_c8_11 (dat dk_X7_init 18 rfl) (nc_A13 l) rfl ⟨37, .inr 2, _, rfl, rfl⟩ rfl (fun H mc ms p => ?_)
  obtain ⟨rfl, rfl, rfl⟩ := p
  show To l E_X7_init (42, [(0, .inr (.inr 32)), (1, .inr (.inr 4)), (2, .inr (.inr 8)), (3, .inr (.inr 14))], [.inr (.inr 37), .inr (.inr 32)], (hpx hp0 39 TA_39 WA_39), 6, 2422) _
  refine to_putR p_c8_23 (dat dk_X7_init 19 rfl) rfl ?_
  show To l E_X7_init (45, [(0, .inr (.inr 32)), (1, .inr (.inr 4)), (2, .inr (.inr 8)), (3, .inr (.inr 14))], [], (hpx hp0 39 TA_39 WA_40), 6, 2422) _
  refine to_aload_np (dat dk_X7_init 20 rfl) (by decide) rfl ?_
  refine to_new nw_c8_9 (dat dk_X7_init 21 rfl) (show (39 : Nat) < 1000000 by decide) ?_
  show To l E_X7_init (49, [(0, .inr (.inr 32)), (1, .inr (.inr 4)), (2, .inr (.inr 8)), (3, .inr (.inr 14))], [.inr (.inr 39), .inr (.inr 32)], (hpx hp0 40 TA_40 WA_40), 7, 2424) _
  refine to_dup (dat dk_X7_init 22 rfl) rfl ?_
  refine to_bipush (dat dk_X7_init 23 rfl) (by decide) ?_
  refine to_cVa ca_c8_11 (dat dk_X7_init 24 rfl) (nc_A14 l) rfl ⟨39, .inr 2, _, rfl, rfl⟩ rfl (fun H mc ms p => ?_)
  obtain ⟨rfl, rfl, rfl⟩ := p
  show To l E_X7_init (55, [(0, .inr (.inr 32)), (1, .inr (.inr 4)), (2, .inr (.inr 8)), (3, .inr (.inr 14))], [.inr (.inr 39), .inr (.inr 32)], (hpx hp0 41 TA_41 WA_41), 8, 2465) _
  refine to_putR p_c8_26 (dat dk_X7_init 25 rfl) rfl ?_
  show To l E_X7_init (58, [(0, .inr (.inr 32)), (1, .inr (.inr 4)), (2, .inr (.inr 8)), (3, .inr (.inr 14))], [], (hpx hp0 41 TA_41 WA_42), 8, 2465) _
  refine to_aload_np (dat dk_X7_init 26 rfl) (by decide) rfl ?_
  refine to_sipush (dat dk_X7_init 27 rfl) (by decide) ?_
  refine to_newarray 0 rfl (by decide) rfl (tin 1 82 (by decide +kernel) rfl) (dat dk_X7_init 28 rfl) (by decide) (show (41 : Nat) < 1000000 by decide) ?_
  show To l E_X7_init (64, [(0, .inr (.inr 32)), (1, .inr (.inr 4)), (2, .inr (.inr 8)), (3, .inr (.inr 14))], [.inr (.inr 41), .inr (.inr 32)], (hpx hp0 42 TA_42 WA_42), 9, 3665) _
  refine to_putR p_c8_29 (dat dk_X7_init 29 rfl) rfl ?_
  show To l E_X7_init (67, [(0, .inr (.inr 32)), (1, .inr (.inr 4)), (2, .inr (.inr 8)), (3, .inr (.inr 14))], [], (hpx hp0 42 TA_42 WA_43), 9, 3665) _
  refine to_aload_np (dat dk_X7_init 30 rfl) (by decide) rfl ?_
  refine to_bipush (dat dk_X7_init 31 rfl) (by decide) ?_
  refine to_newarray 0 rfl (by decide) rfl (tin 1 82 (by decide +kernel) rfl) (dat dk_X7_init 32 rfl) (by decide) (show (42 : Nat) < 1000000 by decide) ?_
  show To l E_X7_init (72, [(0, .inr (.inr 32)), (1, .inr (.inr 4)), (2, .inr (.inr 8)), (3, .inr (.inr 14))], [.inr (.inr 42), .inr (.inr 32)], (hpx hp0 43 TA_43 WA_43), 10, 3681) _
  refine to_putR p_c8_33 (dat dk_X7_init 33 rfl) rfl ?_
  show To l E_X7_init (75, [(0, .inr (.inr 32)), (1, .inr (.inr 4)), (2, .inr (.inr 8)), (3, .inr (.inr 14))], [], (hpx hp0 43 TA_43 WA_44), 10, 3681) _
  refine to_aload_np (dat dk_X7_init 34 rfl) (by decide) rfl ?_
  refine to_sipush (dat dk_X7_init 35 rfl) (by decide) ?_
  refine to_newarray 0 rfl (by decide) rfl (tin 1 82 (by decide +kernel) rfl) (dat dk_X7_init 36 rfl) (by decide) (show (43 : Nat) < 1000000 by decide) ?_
  show To l E_X7_init (81, [(0, .inr (.inr 32)), (1, .inr (.inr 4)), (2, .inr (.inr 8)), (3, .inr (.inr 14))], [.inr (.inr 43), .inr (.inr 32)], (hpx hp0 44 TA_44 WA_44), 11, 4082) _
  refine to_putR p_c8_36 (dat dk_X7_init 37 rfl) rfl ?_
  show To l E_X7_init (84, [(0, .inr (.inr 32)), (1, .inr (.inr 4)), (2, .inr (.inr 8)), (3, .inr (.inr 14))], [], (hpx hp0 44 TA_44 WA_45), 11, 4082) _
  refine to_aload_np (dat dk_X7_init 38 rfl) (by decide) rfl ?_
  refine to_sipush (dat dk_X7_init 39 rfl) (by decide) ?_
  refine to_newarray 0 rfl (by decide) rfl (tin 1 82 (by decide +kernel) rfl) (dat dk_X7_init 40 rfl) (by decide) (show (44 : Nat) < 1000000 by decide) ?_
  show To l E_X7_init (90, [(0, .inr (.inr 32)), (1, .inr (.inr 4)), (2, .inr (.inr 8)), (3, .inr (.inr 14))], [.inr (.inr 44), .inr (.inr 32)], (hpx hp0 45 TA_45 WA_45), 12, 4483) _
  refine to_putR p_c8_39 (dat dk_X7_init 41 rfl) rfl ?_
  show To l E_X7_init (93, [(0, .inr (.inr 32)), (1, .inr (.inr 4)), (2, .inr (.inr 8)), (3, .inr (.inr 14))], [], (hpx hp0 45 TA_45 WA_46), 12, 4483) _
  refine to_aload_np (dat dk_X7_init 42 rfl) (by decide) rfl ?_
  refine to_sipush (dat dk_X7_init 43 rfl) (by decide) ?_
  refine to_newarray 0 rfl (by decide) rfl (tin 1 82 (by decide +kernel) rfl) (dat dk_X7_init 44 rfl) (by decide) (show (45 : Nat) < 1000000 by decide) ?_
  show To l E_X7_init (99, [(0, .inr (.inr 32)), (1, .inr (.inr 4)), (2, .inr (.inr 8)), (3, .inr (.inr 14))], [.inr (.inr 45), .inr (.inr 32)], (hpx hp0 46 TA_46 WA_46), 13, 4884) _
  refine to_putR p_c8_42 (dat dk_X7_init 45 rfl) rfl ?_
  show To l E_X7_init (102, [(0, .inr (.inr 32)), (1, .inr (.inr 4)), (2, .inr (.inr 8)), (3, .inr (.inr 14))], [], (hpx hp0 46 TA_46 WA_47), 13, 4884) _
  refine to_aload_np (dat dk_X7_init 46 rfl) (by decide) rfl ?_
  refine to_aload_np (dat dk_X7_init 47 rfl) (by decide) rfl ?_
  refine to_putR p_c8_45 (dat dk_X7_init 48 rfl) rfl ?_
  show To l E_X7_init (107, [(0, .inr (.inr 32)), (1, .inr (.inr 4)), (2, .inr (.inr 8)), (3, .inr (.inr 14))], [], (hpx hp0 46 TA_46 WA_48), 13, 4884) _
  refine to_aload_np (dat dk_X7_init 49 rfl) (by decide) rfl ?_
  refine to_aload_np (dat dk_X7_init 50 rfl) (by decide) rfl ?_
  refine to_putR p_c8_48 (dat dk_X7_init 51 rfl) rfl ?_
  show To l E_X7_init (112, [(0, .inr (.inr 32)), (1, .inr (.inr 4)), (2, .inr (.inr 8)), (3, .inr (.inr 14))], [], (hpx hp0 46 TA_46 WA_49), 13, 4884) _
  refine to_aload_np (dat dk_X7_init 52 rfl) (by decide) rfl ?_
  refine to_aload_np (dat dk_X7_init 53 rfl) (by decide) rfl ?_
  refine to_putR p_c8_52 (dat dk_X7_init 54 rfl) rfl ?_
  show To l E_X7_init (117, [(0, .inr (.inr 32)), (1, .inr (.inr 4)), (2, .inr (.inr 8)), (3, .inr (.inr 14))], [], (hpx hp0 46 TA_46 WA_50), 13, 4884) _
  refine to_aload_np (dat dk_X7_init 55 rfl) (by decide) rfl ?_
  refine to_new nw_c8_55 (dat dk_X7_init 56 rfl) (show (46 : Nat) < 1000000 by decide) ?_
  show To l E_X7_init (121, [(0, .inr (.inr 32)), (1, .inr (.inr 4)), (2, .inr (.inr 8)), (3, .inr (.inr 14))], [.inr (.inr 46), .inr (.inr 32)], (hpx hp0 47 TA_47 WA_50), 14, 4889) _
  refine to_dup (dat dk_X7_init 57 rfl) rfl ?_
  refine to_aload_np (dat dk_X7_init 58 rfl) (by decide) rfl ?_
  refine to_cVa ca_c8_57 (dat dk_X7_init 59 rfl) (nc_A15 l) rfl ⟨46, .inr 3, _, rfl, rfl⟩ rfl (fun H mc ms p => ?_)
  obtain ⟨rfl, rfl, rfl⟩ := p
  show To l E_X7_init (126, [(0, .inr (.inr 32)), (1, .inr (.inr 4)), (2, .inr (.inr 8)), (3, .inr (.inr 14))], [.inr (.inr 46), .inr (.inr 32)], (hpx hp0 49 TA_49 WA_53), 16, 4907) _
  refine to_putR p_c8_60 (dat dk_X7_init 60 rfl) rfl ?_
  show To l E_X7_init (129, [(0, .inr (.inr 32)), (1, .inr (.inr 4)), (2, .inr (.inr 8)), (3, .inr (.inr 14))], [], (hpx hp0 49 TA_49 WA_54), 16, 4907) _
  exact to_vret rfl (dat dk_X7_init 61 rfl) (rv_mka ⟨rfl, rfl, rfl⟩)
theorem nw_c0_62 : NewOK RX11 62 7 := by
  refine ⟨_, _, _, rfl, ?_, ?_, ?_, ?_⟩
  · rfl
  · exact tin 1 215 (by decide +kernel) rfl
  · exact tin 1 216 (by decide +kernel) rfl
  · exact tin 1 10 (by decide +kernel) rfl
theorem nw_c9_26 : NewOK RX8 26 2 := by
  refine ⟨_, _, _, rfl, ?_, ?_, ?_, ?_⟩
  · rfl
  · exact tin 1 221 (by decide +kernel) rfl
  · exact tin 1 41 (by decide +kernel) rfl
  · exact tin 1 2 (by decide +kernel) rfl
set_option maxRecDepth 100000 in
theorem nc_A17 (l : Launch) : Ct l D_X1_init 1 20 [.inr (.inr 54), .inl 16] (hpx hp0 55 TA_55 WA_59) (RVa (fun H mc ms => H = (hpx hp0 56 TA_56 WA_60) ∧ mc = 1 ∧ ms = 16)) := by
  refine ct_of pn_X1_init (Nat.le_of_ble_eq_true rfl) ?_
  show To l E_X1_init (0, [(0, .inr (.inr 54)), (1, .inl 16)], [], (hpx hp0 55 TA_55 WA_59), 0, 0) _
  refine to_aload_np (dat dk_X1_init 0 rfl) (by decide) rfl ?_
  refine to_obj (tin 1 45 (by decide +kernel) rfl) (tin 1 38 (by decide +kernel) rfl) (tin 1 39 (by decide +kernel) rfl) (dat dk_X1_init 1 rfl) rfl rfl ?_
  refine to_aload_np (dat dk_X1_init 2 rfl) (by decide) rfl ?_
  refine to_iload_n (dat dk_X1_init 3 rfl) rfl ?_
  refine to_ifle 13 (dat dk_X1_init 4 rfl) rfl (by decide) (fun c => absurd c (by decide)) (fun _ => ?_)
  refine to_iload_n (dat dk_X1_init 5 rfl) rfl ?_
  refine to_goto (t := 14) (dat dk_X1_init 6 rfl) rfl ?_
  refine to_newarray 1 rfl (by decide) rfl (tin 1 53 (by decide +kernel) rfl) (dat dk_X1_init 8 rfl) (by decide) (show (55 : Nat) < 1000000 by decide) ?_
  show To l E_X1_init (16, [(0, .inr (.inr 54)), (1, .inl 16)], [.inr (.inr 55), .inr (.inr 54)], (hpx hp0 56 TA_56 WA_59), 1, 16) _
  refine to_putR p_c2_9 (dat dk_X1_init 9 rfl) rfl ?_
  show To l E_X1_init (19, [(0, .inr (.inr 54)), (1, .inl 16)], [], (hpx hp0 56 TA_56 WA_60), 1, 16) _
  exact to_vret rfl (dat dk_X1_init 10 rfl) (rv_mka ⟨rfl, rfl, rfl⟩)
theorem nw_c9_58 : NewOK RX8 58 4 := by
  refine ⟨_, _, _, rfl, ?_, ?_, ?_, ?_⟩
  · rfl
  · exact tin 1 223 (by decide +kernel) rfl
  · exact tin 1 224 (by decide +kernel) rfl
  · exact tin 1 11 (by decide +kernel) rfl
set_option maxRecDepth 100000 in
theorem nc_A18 (l : Launch) : Ct l D_X5_init 1 20 [.inr (.inr 56), .inr (.inr 6)] (hpx hp0 57 TA_57 WA_67) (RVa (fun H mc ms => H = (hpx hp0 57 TA_57 WA_68) ∧ mc = 0 ∧ ms = 0)) := by
  refine ct_of pn_X5_init (Nat.le_of_ble_eq_true rfl) ?_
  show To l E_X5_init (0, [(0, .inr (.inr 56)), (1, .inr (.inr 6))], [], (hpx hp0 57 TA_57 WA_67), 0, 0) _
  refine to_aload_np (dat dk_X5_init 0 rfl) (by decide) rfl ?_
  refine to_obj (tin 1 228 (by decide +kernel) rfl) (tin 1 38 (by decide +kernel) rfl) (tin 1 39 (by decide +kernel) rfl) (dat dk_X5_init 1 rfl) rfl rfl ?_
  refine to_aload_np (dat dk_X5_init 2 rfl) (by decide) rfl ?_
  refine to_aload_np (dat dk_X5_init 3 rfl) (by decide) rfl ?_
  refine to_putR p_c6_9 (dat dk_X5_init 4 rfl) rfl ?_
  show To l E_X5_init (9, [(0, .inr (.inr 56)), (1, .inr (.inr 6))], [], (hpx hp0 57 TA_57 WA_68), 0, 0) _
  exact to_vret rfl (dat dk_X5_init 5 rfl) (rv_mka ⟨rfl, rfl, rfl⟩)
set_option maxRecDepth 100000 in
theorem nc_A19 (l : Launch) : Ct l D_X8_init 2 41 [.inr (.inr 49), .inr (.inr 6), .inr (.inr 26), .inr (.inr 27), .inr (.inr 8), .inr (.inr 14), .inr (.inr 20)] (hpx hp0 50 TA_50 WA_55) (RVa (fun H mc ms => H = (hpx hp0 57 TA_57 WA_69) ∧ mc = 7 ∧ ms = 1290)) := by
  refine ct_of pn_X8_init (Nat.le_of_ble_eq_true rfl) ?_
  show To l E_X8_init (0, [(0, .inr (.inr 49)), (1, .inr (.inr 6)), (2, .inr (.inr 26)), (3, .inr (.inr 27)), (4, .inr (.inr 8)), (5, .inr (.inr 14)), (6, .inr (.inr 20))], [], (hpx hp0 50 TA_50 WA_55), 0, 0) _
  refine to_aload_np (dat dk_X8_init 0 rfl) (by decide) rfl ?_
  refine to_obj (tin 1 220 (by decide +kernel) rfl) (tin 1 38 (by decide +kernel) rfl) (tin 1 39 (by decide +kernel) rfl) (dat dk_X8_init 1 rfl) rfl rfl ?_
  refine to_aload_np (dat dk_X8_init 2 rfl) (by decide) rfl ?_
  refine to_bipush (dat dk_X8_init 3 rfl) (by decide) ?_
  refine to_newarray 3 rfl (by decide) rfl (tin 2 24 (by decide +kernel) rfl) (dat dk_X8_init 4 rfl) (by decide) (show (50 : Nat) < 1000000 by decide) ?_
  show To l E_X8_init (9, [(0, .inr (.inr 49)), (1, .inr (.inr 6)), (2, .inr (.inr 26)), (3, .inr (.inr 27)), (4, .inr (.inr 8)), (5, .inr (.inr 14)), (6, .inr (.inr 20))], [.inr (.inr 50), .inr (.inr 49)], (hpx hp0 51 TA_51 WA_55), 1, 21) _
  refine to_putR p_c9_11 (dat dk_X8_init 5 rfl) rfl ?_
  show To l E_X8_init (12, [(0, .inr (.inr 49)), (1, .inr (.inr 6)), (2, .inr (.inr 26)), (3, .inr (.inr 27)), (4, .inr (.inr 8)), (5, .inr (.inr 14)), (6, .inr (.inr 20))], [], (hpx hp0 51 TA_51 WA_56), 1, 21) _
  refine to_aload_np (dat dk_X8_init 6 rfl) (by decide) rfl ?_
  refine to_bipush (dat dk_X8_init 7 rfl) (by decide) ?_
  refine to_newarray 3 rfl (by decide) rfl (tin 2 24 (by decide +kernel) rfl) (dat dk_X8_init 8 rfl) (by decide) (show (51 : Nat) < 1000000 by decide) ?_
  show To l E_X8_init (17, [(0, .inr (.inr 49)), (1, .inr (.inr 6)), (2, .inr (.inr 26)), (3, .inr (.inr 27)), (4, .inr (.inr 8)), (5, .inr (.inr 14)), (6, .inr (.inr 20))], [.inr (.inr 51), .inr (.inr 49)], (hpx hp0 52 TA_52 WA_56), 2, 42) _
  refine to_putR p_c9_15 (dat dk_X8_init 9 rfl) rfl ?_
  show To l E_X8_init (20, [(0, .inr (.inr 49)), (1, .inr (.inr 6)), (2, .inr (.inr 26)), (3, .inr (.inr 27)), (4, .inr (.inr 8)), (5, .inr (.inr 14)), (6, .inr (.inr 20))], [], (hpx hp0 52 TA_52 WA_57), 2, 42) _
  refine to_aload_np (dat dk_X8_init 10 rfl) (by decide) rfl ?_
  refine to_bipush (dat dk_X8_init 11 rfl) (by decide) ?_
  refine to_newarray 2 rfl (by decide) rfl (tin 2 25 (by decide +kernel) rfl) (dat dk_X8_init 12 rfl) (by decide) (show (52 : Nat) < 1000000 by decide) ?_
  show To l E_X8_init (25, [(0, .inr (.inr 49)), (1, .inr (.inr 6)), (2, .inr (.inr 26)), (3, .inr (.inr 27)), (4, .inr (.inr 8)), (5, .inr (.inr 14)), (6, .inr (.inr 20))], [.inr (.inr 52), .inr (.inr 49)], (hpx hp0 53 TA_53 WA_57), 3, 63) _
  refine to_putR p_c9_18 (dat dk_X8_init 13 rfl) rfl ?_
  show To l E_X8_init (28, [(0, .inr (.inr 49)), (1, .inr (.inr 6)), (2, .inr (.inr 26)), (3, .inr (.inr 27)), (4, .inr (.inr 8)), (5, .inr (.inr 14)), (6, .inr (.inr 20))], [], (hpx hp0 53 TA_53 WA_58), 3, 63) _
  refine to_aload_np (dat dk_X8_init 14 rfl) (by decide) rfl ?_
  refine to_sipush (dat dk_X8_init 15 rfl) (by decide) ?_
  refine to_newarray 0 rfl (by decide) rfl (tin 1 82 (by decide +kernel) rfl) (dat dk_X8_init 16 rfl) (by decide) (show (53 : Nat) < 1000000 by decide) ?_
  show To l E_X8_init (34, [(0, .inr (.inr 49)), (1, .inr (.inr 6)), (2, .inr (.inr 26)), (3, .inr (.inr 27)), (4, .inr (.inr 8)), (5, .inr (.inr 14)), (6, .inr (.inr 20))], [.inr (.inr 53), .inr (.inr 49)], (hpx hp0 54 TA_54 WA_58), 4, 1263) _
  refine to_putR p_c9_22 (dat dk_X8_init 17 rfl) rfl ?_
  show To l E_X8_init (37, [(0, .inr (.inr 49)), (1, .inr (.inr 6)), (2, .inr (.inr 26)), (3, .inr (.inr 27)), (4, .inr (.inr 8)), (5, .inr (.inr 14)), (6, .inr (.inr 20))], [], (hpx hp0 54 TA_54 WA_59), 4, 1263) _
  refine to_aload_np (dat dk_X8_init 18 rfl) (by decide) rfl ?_
  refine to_new nw_c9_26 (dat dk_X8_init 19 rfl) (show (54 : Nat) < 1000000 by decide) ?_
  show To l E_X8_init (41, [(0, .inr (.inr 49)), (1, .inr (.inr 6)), (2, .inr (.inr 26)), (3, .inr (.inr 27)), (4, .inr (.inr 8)), (5, .inr (.inr 14)), (6, .inr (.inr 20))], [.inr (.inr 54), .inr (.inr 49)], (hpx hp0 55 TA_55 WA_59), 5, 1265) _
  refine to_dup (dat dk_X8_init 20 rfl) rfl ?_
  refine to_bipush (dat dk_X8_init 21 rfl) (by decide) ?_
  refine to_cVa ca_c9_30 (dat dk_X8_init 22 rfl) (nc_A17 l) rfl ⟨54, .inr 2, _, rfl, rfl⟩ rfl (fun H mc ms p => ?_)
  obtain ⟨rfl, rfl, rfl⟩ := p
  show To l E_X8_init (47, [(0, .inr (.inr 49)), (1, .inr (.inr 6)), (2, .inr (.inr 26)), (3, .inr (.inr 27)), (4, .inr (.inr 8)), (5, .inr (.inr 14)), (6, .inr (.inr 20))], [.inr (.inr 54), .inr (.inr 49)], (hpx hp0 56 TA_56 WA_60), 6, 1281) _
  refine to_putR p_c9_33 (dat dk_X8_init 23 rfl) rfl ?_
  show To l E_X8_init (50, [(0, .inr (.inr 49)), (1, .inr (.inr 6)), (2, .inr (.inr 26)), (3, .inr (.inr 27)), (4, .inr (.inr 8)), (5, .inr (.inr 14)), (6, .inr (.inr 20))], [], (hpx hp0 56 TA_56 WA_61), 6, 1281) _
  refine to_aload_np (dat dk_X8_init 24 rfl) (by decide) rfl ?_
  refine to_aload_np (dat dk_X8_init 25 rfl) (by decide) rfl ?_
  refine to_putR p_c9_37 (dat dk_X8_init 26 rfl) rfl ?_
  show To l E_X8_init (55, [(0, .inr (.inr 49)), (1, .inr (.inr 6)), (2, .inr (.inr 26)), (3, .inr (.inr 27)), (4, .inr (.inr 8)), (5, .inr (.inr 14)), (6, .inr (.inr 20))], [], (hpx hp0 56 TA_56 WA_62), 6, 1281) _
  refine to_aload_np (dat dk_X8_init 27 rfl) (by decide) rfl ?_
  refine to_aload_np (dat dk_X8_init 28 rfl) (by decide) rfl ?_
  refine to_putR p_c9_40 (dat dk_X8_init 29 rfl) rfl ?_
  show To l E_X8_init (60, [(0, .inr (.inr 49)), (1, .inr (.inr 6)), (2, .inr (.inr 26)), (3, .inr (.inr 27)), (4, .inr (.inr 8)), (5, .inr (.inr 14)), (6, .inr (.inr 20))], [], (hpx hp0 56 TA_56 WA_63), 6, 1281) _
  refine to_aload_np (dat dk_X8_init 30 rfl) (by decide) rfl ?_
  refine to_aload_np (dat dk_X8_init 31 rfl) (by decide) rfl ?_
  refine to_putR p_c9_44 (dat dk_X8_init 32 rfl) rfl ?_
  show To l E_X8_init (65, [(0, .inr (.inr 49)), (1, .inr (.inr 6)), (2, .inr (.inr 26)), (3, .inr (.inr 27)), (4, .inr (.inr 8)), (5, .inr (.inr 14)), (6, .inr (.inr 20))], [], (hpx hp0 56 TA_56 WA_64), 6, 1281) _
  refine to_aload_np (dat dk_X8_init 33 rfl) (by decide) rfl ?_
  refine to_aload_p (dat dk_X8_init 34 rfl) (by decide) rfl ?_
  refine to_putR p_c9_48 (dat dk_X8_init 35 rfl) rfl ?_
  show To l E_X8_init (71, [(0, .inr (.inr 49)), (1, .inr (.inr 6)), (2, .inr (.inr 26)), (3, .inr (.inr 27)), (4, .inr (.inr 8)), (5, .inr (.inr 14)), (6, .inr (.inr 20))], [], (hpx hp0 56 TA_56 WA_65), 6, 1281) _
  refine to_aload_np (dat dk_X8_init 36 rfl) (by decide) rfl ?_
  refine to_aload_p (dat dk_X8_init 37 rfl) (by decide) rfl ?_
  refine to_putR p_c9_52 (dat dk_X8_init 38 rfl) rfl ?_
  show To l E_X8_init (77, [(0, .inr (.inr 49)), (1, .inr (.inr 6)), (2, .inr (.inr 26)), (3, .inr (.inr 27)), (4, .inr (.inr 8)), (5, .inr (.inr 14)), (6, .inr (.inr 20))], [], (hpx hp0 56 TA_56 WA_66), 6, 1281) _
  refine to_aload_np (dat dk_X8_init 39 rfl) (by decide) rfl ?_
  refine to_aload_p (dat dk_X8_init 40 rfl) (by decide) rfl ?_
  refine to_putR p_c9_55 (dat dk_X8_init 41 rfl) rfl ?_
  show To l E_X8_init (83, [(0, .inr (.inr 49)), (1, .inr (.inr 6)), (2, .inr (.inr 26)), (3, .inr (.inr 27)), (4, .inr (.inr 8)), (5, .inr (.inr 14)), (6, .inr (.inr 20))], [], (hpx hp0 56 TA_56 WA_67), 6, 1281) _
  refine to_aload_np (dat dk_X8_init 42 rfl) (by decide) rfl ?_
  refine to_new nw_c9_58 (dat dk_X8_init 43 rfl) (show (56 : Nat) < 1000000 by decide) ?_
  show To l E_X8_init (87, [(0, .inr (.inr 49)), (1, .inr (.inr 6)), (2, .inr (.inr 26)), (3, .inr (.inr 27)), (4, .inr (.inr 8)), (5, .inr (.inr 14)), (6, .inr (.inr 20))], [.inr (.inr 56), .inr (.inr 49)], (hpx hp0 57 TA_57 WA_67), 7, 1290) _
  refine to_dup (dat dk_X8_init 44 rfl) rfl ?_
  refine to_aload_np (dat dk_X8_init 45 rfl) (by decide) rfl ?_
  refine to_cVa ca_c9_60 (dat dk_X8_init 46 rfl) (nc_A18 l) rfl ⟨56, .inr 4, _, rfl, rfl⟩ rfl (fun H mc ms p => ?_)
  obtain ⟨rfl, rfl, rfl⟩ := p
  show To l E_X8_init (92, [(0, .inr (.inr 49)), (1, .inr (.inr 6)), (2, .inr (.inr 26)), (3, .inr (.inr 27)), (4, .inr (.inr 8)), (5, .inr (.inr 14)), (6, .inr (.inr 20))], [.inr (.inr 56), .inr (.inr 49)], (hpx hp0 57 TA_57 WA_68), 7, 1290) _
  refine to_putR p_c9_63 (dat dk_X8_init 47 rfl) rfl ?_
  show To l E_X8_init (95, [(0, .inr (.inr 49)), (1, .inr (.inr 6)), (2, .inr (.inr 26)), (3, .inr (.inr 27)), (4, .inr (.inr 8)), (5, .inr (.inr 14)), (6, .inr (.inr 20))], [], (hpx hp0 57 TA_57 WA_69), 7, 1290) _
  exact to_vret rfl (dat dk_X8_init 48 rfl) (rv_mka ⟨rfl, rfl, rfl⟩)
set_option maxRecDepth 100000 in
theorem nc_A20 (l : Launch) : Ct l D_X11_init 4 80 [.inr (.inr 1)] (hpx hp0 2 TA_2 WA_0) (RVa (fun H mc ms => BB H ∧ Fr [2] (hpx hp0 60 TA_60 WA_73) H ∧ mc = 58 ∧ ms = 24493)) := by
  refine ct_of pn_X11_init (Nat.le_of_ble_eq_true rfl) ?_
  show To l E_X11_init (0, [(0, .inr (.inr 1))], [], (hpx hp0 2 TA_2 WA_0), 0, 0) _
  refine to_aload_np (dat dk_X11_init 0 rfl) (by decide) rfl ?_
  refine to_obj (tin 1 37 (by decide +kernel) rfl) (tin 1 38 (by decide +kernel) rfl) (tin 1 39 (by decide +kernel) rfl) (dat dk_X11_init 1 rfl) rfl rfl ?_
  refine to_aload_np (dat dk_X11_init 2 rfl) (by decide) rfl ?_
  refine to_new nw_c0_7 (dat dk_X11_init 3 rfl) (show (2 : Nat) < 1000000 by decide) ?_
  show To l E_X11_init (8, [(0, .inr (.inr 1))], [.inr (.inr 2), .inr (.inr 1)], (hpx hp0 3 TA_3 WA_0), 1, 2) _
  refine to_dup (dat dk_X11_init 4 rfl) rfl ?_
  refine to_bipush (dat dk_X11_init 5 rfl) (by decide) ?_
  refine to_cVa ca_c0_11 (dat dk_X11_init 6 rfl) (nc_A1 l) rfl ⟨2, .inr 2, _, rfl, rfl⟩ rfl (fun H mc ms p => ?_)
  obtain ⟨rfl, rfl, rfl⟩ := p
  show To l E_X11_init (14, [(0, .inr (.inr 1))], [.inr (.inr 2), .inr (.inr 1)], (hpx hp0 4 TA_4 WA_1), 2, 22) _
  refine to_putR p_c0_14 (dat dk_X11_init 7 rfl) rfl ?_
  show To l E_X11_init (17, [(0, .inr (.inr 1))], [], (hpx hp0 4 TA_4 WA_2), 2, 22) _
  refine to_aload_np (dat dk_X11_init 8 rfl) (by decide) rfl ?_
  refine to_new nw_c0_7 (dat dk_X11_init 9 rfl) (show (4 : Nat) < 1000000 by decide) ?_
  show To l E_X11_init (21, [(0, .inr (.inr 1))], [.inr (.inr 4), .inr (.inr 1)], (hpx hp0 5 TA_5 WA_2), 3, 24) _
  refine to_dup (dat dk_X11_init 10 rfl) rfl ?_
  refine to_sipush (dat dk_X11_init 11 rfl) (by decide) ?_
  refine to_cVa ca_c0_11 (dat dk_X11_init 12 rfl) (nc_A2 l) rfl ⟨4, .inr 2, _, rfl, rfl⟩ rfl (fun H mc ms p => ?_)
  obtain ⟨rfl, rfl, rfl⟩ := p
  show To l E_X11_init (28, [(0, .inr (.inr 1))], [.inr (.inr 4), .inr (.inr 1)], (hpx hp0 6 TA_6 WA_3), 4, 1224) _
  refine to_putR p_c0_18 (dat dk_X11_init 13 rfl) rfl ?_
  show To l E_X11_init (31, [(0, .inr (.inr 1))], [], (hpx hp0 6 TA_6 WA_4), 4, 1224) _
  refine to_aload_np (dat dk_X11_init 14 rfl) (by decide) rfl ?_
  refine to_new nw_c0_7 (dat dk_X11_init 15 rfl) (show (6 : Nat) < 1000000 by decide) ?_
  show To l E_X11_init (35, [(0, .inr (.inr 1))], [.inr (.inr 6), .inr (.inr 1)], (hpx hp0 7 TA_7 WA_4), 5, 1226) _
  refine to_dup (dat dk_X11_init 16 rfl) rfl ?_
  refine to_sipush (dat dk_X11_init 17 rfl) (by decide) ?_
  refine to_cVa ca_c0_11 (dat dk_X11_init 18 rfl) (nc_A3 l) rfl ⟨6, .inr 2, _, rfl, rfl⟩ rfl (fun H mc ms p => ?_)
  obtain ⟨rfl, rfl, rfl⟩ := p
  show To l E_X11_init (42, [(0, .inr (.inr 1))], [.inr (.inr 6), .inr (.inr 1)], (hpx hp0 8 TA_8 WA_5), 6, 2426) _
  refine to_putR p_c0_21 (dat dk_X11_init 19 rfl) rfl ?_
  show To l E_X11_init (45, [(0, .inr (.inr 1))], [], (hpx hp0 8 TA_8 WA_6), 6, 2426) _
  refine to_aload_np (dat dk_X11_init 20 rfl) (by decide) rfl ?_
  refine to_new nw_c0_24 (dat dk_X11_init 21 rfl) (show (8 : Nat) < 1000000 by decide) ?_
  show To l E_X11_init (49, [(0, .inr (.inr 1))], [.inr (.inr 8), .inr (.inr 1)], (hpx hp0 9 TA_9 WA_6), 7, 2433) _
  refine to_dup (dat dk_X11_init 22 rfl) rfl ?_
  refine to_cVa ca_c0_26 (dat dk_X11_init 23 rfl) (nc_A4 l) rfl ⟨8, .inr 1, _, rfl, rfl⟩ rfl (fun H mc ms p => ?_)
  obtain ⟨rfl, rfl, rfl⟩ := p
  show To l E_X11_init (53, [(0, .inr (.inr 1))], [.inr (.inr 8), .inr (.inr 1)], (hpx hp0 14 TA_14 WA_11), 12, 4162) _
  refine to_putR p_c0_27 (dat dk_X11_init 24 rfl) rfl ?_
  show To l E_X11_init (56, [(0, .inr (.inr 1))], [], (hpx hp0 14 TA_14 WA_12), 12, 4162) _
  refine to_aload_np (dat dk_X11_init 25 rfl) (by decide) rfl ?_
  refine to_new nw_c0_24 (dat dk_X11_init 26 rfl) (show (14 : Nat) < 1000000 by decide) ?_
  show To l E_X11_init (60, [(0, .inr (.inr 1))], [.inr (.inr 14), .inr (.inr 1)], (hpx hp0 15 TA_15 WA_12), 13, 4169) _
  refine to_dup (dat dk_X11_init 27 rfl) rfl ?_
  refine to_cVa ca_c0_26 (dat dk_X11_init 28 rfl) (nc_A5 l) rfl ⟨14, .inr 1, _, rfl, rfl⟩ rfl (fun H mc ms p => ?_)
  obtain ⟨rfl, rfl, rfl⟩ := p
  show To l E_X11_init (64, [(0, .inr (.inr 1))], [.inr (.inr 14), .inr (.inr 1)], (hpx hp0 20 TA_20 WA_17), 18, 5898) _
  refine to_putR p_c0_31 (dat dk_X11_init 29 rfl) rfl ?_
  show To l E_X11_init (67, [(0, .inr (.inr 1))], [], (hpx hp0 20 TA_20 WA_18), 18, 5898) _
  refine to_aload_np (dat dk_X11_init 30 rfl) (by decide) rfl ?_
  refine to_new nw_c0_24 (dat dk_X11_init 31 rfl) (show (20 : Nat) < 1000000 by decide) ?_
  show To l E_X11_init (71, [(0, .inr (.inr 1))], [.inr (.inr 20), .inr (.inr 1)], (hpx hp0 21 TA_21 WA_18), 19, 5905) _
  refine to_dup (dat dk_X11_init 32 rfl) rfl ?_
  refine to_cVa ca_c0_26 (dat dk_X11_init 33 rfl) (nc_A6 l) rfl ⟨20, .inr 1, _, rfl, rfl⟩ rfl (fun H mc ms p => ?_)
  obtain ⟨rfl, rfl, rfl⟩ := p
  show To l E_X11_init (75, [(0, .inr (.inr 1))], [.inr (.inr 20), .inr (.inr 1)], (hpx hp0 26 TA_26 WA_23), 24, 7634) _
  refine to_putR p_c0_34 (dat dk_X11_init 34 rfl) rfl ?_
  show To l E_X11_init (78, [(0, .inr (.inr 1))], [], (hpx hp0 26 TA_26 WA_24), 24, 7634) _
  refine to_aload_np (dat dk_X11_init 35 rfl) (by decide) rfl ?_
  refine to_new nw_c0_37 (dat dk_X11_init 36 rfl) (show (26 : Nat) < 1000000 by decide) ?_
  show To l E_X11_init (82, [(0, .inr (.inr 1))], [.inr (.inr 26), .inr (.inr 1)], (hpx hp0 27 TA_27 WA_24), 25, 7637) _
  refine to_dup (dat dk_X11_init 37 rfl) rfl ?_
  refine to_cVa ca_c0_39 (dat dk_X11_init 38 rfl) (nc_A9 l) rfl ⟨26, .inr 0, _, rfl, rfl⟩ rfl (fun H mc ms p => ?_)
  obtain ⟨rfl, rfl, rfl⟩ := p
  show To l E_X11_init (86, [(0, .inr (.inr 1))], [.inr (.inr 26), .inr (.inr 1)], (hpx hp0 27 TA_27 WA_26), 25, 7637) _
  refine to_putR p_c0_40 (dat dk_X11_init 39 rfl) rfl ?_
  show To l E_X11_init (89, [(0, .inr (.inr 1))], [], (hpx hp0 27 TA_27 WA_27), 25, 7637) _
  refine to_aload_np (dat dk_X11_init 40 rfl) (by decide) rfl ?_
  refine to_new nw_c0_44 (dat dk_X11_init 41 rfl) (show (27 : Nat) < 1000000 by decide) ?_
  show To l E_X11_init (93, [(0, .inr (.inr 1))], [.inr (.inr 27), .inr (.inr 1)], (hpx hp0 28 TA_28 WA_27), 26, 7644) _
  refine to_dup (dat dk_X11_init 42 rfl) rfl ?_
  refine to_aload_np (dat dk_X11_init 43 rfl) (by decide) rfl ?_
  refine to_getR 26 g_c0_40 (dat dk_X11_init 44 rfl) rfl rfl ?_
  refine to_aload_np (dat dk_X11_init 45 rfl) (by decide) rfl ?_
  refine to_getR 14 g_c0_31 (dat dk_X11_init 46 rfl) rfl rfl ?_
  refine to_cVa ca_c0_46 (dat dk_X11_init 47 rfl) (nc_A10 l) rfl ⟨27, .inr 8, _, rfl, rfl⟩ rfl (fun H mc ms p => ?_)
  obtain ⟨rfl, rfl, rfl⟩ := p
  show To l E_X11_init (105, [(0, .inr (.inr 1))], [.inr (.inr 27), .inr (.inr 1)], (hpx hp0 32 TA_32 WA_33), 30, 18084) _
  refine to_putR p_c0_49 (dat dk_X11_init 48 rfl) rfl ?_
  show To l E_X11_init (108, [(0, .inr (.inr 1))], [], (hpx hp0 32 TA_32 WA_34), 30, 18084) _
  refine to_aload_np (dat dk_X11_init 49 rfl) (by decide) rfl ?_
  refine to_new nw_c0_53 (dat dk_X11_init 50 rfl) (show (32 : Nat) < 1000000 by decide) ?_
  show To l E_X11_init (112, [(0, .inr (.inr 1))], [.inr (.inr 32), .inr (.inr 1)], (hpx hp0 33 TA_33 WA_34), 31, 18099) _
  refine to_dup (dat dk_X11_init 51 rfl) rfl ?_
  refine to_aload_np (dat dk_X11_init 52 rfl) (by decide) rfl ?_
  refine to_getR 4 g_c0_18 (dat dk_X11_init 53 rfl) rfl rfl ?_
  refine to_aload_np (dat dk_X11_init 54 rfl) (by decide) rfl ?_
  refine to_getR 8 g_c0_27 (dat dk_X11_init 55 rfl) rfl rfl ?_
  refine to_aload_np (dat dk_X11_init 56 rfl) (by decide) rfl ?_
  refine to_getR 14 g_c0_31 (dat dk_X11_init 57 rfl) rfl rfl ?_
  refine to_cVa ca_c0_55 (dat dk_X11_init 58 rfl) (nc_A16 l) rfl ⟨32, .inr 6, _, rfl, rfl⟩ rfl (fun H mc ms p => ?_)
  obtain ⟨rfl, rfl, rfl⟩ := p
  show To l E_X11_init (128, [(0, .inr (.inr 1))], [.inr (.inr 32), .inr (.inr 1)], (hpx hp0 49 TA_49 WA_54), 47, 23006) _
  refine to_putR p_c0_58 (dat dk_X11_init 59 rfl) rfl ?_
  show To l E_X11_init (131, [(0, .inr (.inr 1))], [], (hpx hp0 49 TA_49 WA_55), 47, 23006) _
  refine to_aload_np (dat dk_X11_init 60 rfl) (by decide) rfl ?_
  refine to_new nw_c0_62 (dat dk_X11_init 61 rfl) (show (49 : Nat) < 1000000 by decide) ?_
  show To l E_X11_init (135, [(0, .inr (.inr 1))], [.inr (.inr 49), .inr (.inr 1)], (hpx hp0 50 TA_50 WA_55), 48, 23023) _
  refine to_dup (dat dk_X11_init 62 rfl) rfl ?_
  refine to_aload_np (dat dk_X11_init 63 rfl) (by decide) rfl ?_
  refine to_getR 6 g_c0_21 (dat dk_X11_init 64 rfl) rfl rfl ?_
  refine to_aload_np (dat dk_X11_init 65 rfl) (by decide) rfl ?_
  refine to_getR 26 g_c0_40 (dat dk_X11_init 66 rfl) rfl rfl ?_
  refine to_aload_np (dat dk_X11_init 67 rfl) (by decide) rfl ?_
  refine to_getR 27 g_c0_49 (dat dk_X11_init 68 rfl) rfl rfl ?_
  refine to_aload_np (dat dk_X11_init 69 rfl) (by decide) rfl ?_
  refine to_getR 8 g_c0_27 (dat dk_X11_init 70 rfl) rfl rfl ?_
  refine to_aload_np (dat dk_X11_init 71 rfl) (by decide) rfl ?_
  refine to_getR 14 g_c0_31 (dat dk_X11_init 72 rfl) rfl rfl ?_
  refine to_aload_np (dat dk_X11_init 73 rfl) (by decide) rfl ?_
  refine to_getR 20 g_c0_34 (dat dk_X11_init 74 rfl) rfl rfl ?_
  refine to_cVa ca_c0_64 (dat dk_X11_init 75 rfl) (nc_A19 l) rfl ⟨49, .inr 7, _, rfl, rfl⟩ rfl (fun H mc ms p => ?_)
  obtain ⟨rfl, rfl, rfl⟩ := p
  show To l E_X11_init (163, [(0, .inr (.inr 1))], [.inr (.inr 49), .inr (.inr 1)], (hpx hp0 57 TA_57 WA_69), 55, 24313) _
  refine to_putR p_c0_67 (dat dk_X11_init 76 rfl) rfl ?_
  show To l E_X11_init (166, [(0, .inr (.inr 1))], [], (hpx hp0 57 TA_57 WA_70), 55, 24313) _
  refine to_aload_np (dat dk_X11_init 77 rfl) (by decide) rfl ?_
  refine to_bipush (dat dk_X11_init 78 rfl) (by decide) ?_
  refine to_newarray 0 rfl (by decide) rfl (tin 1 82 (by decide +kernel) rfl) (dat dk_X11_init 79 rfl) (by decide) (show (57 : Nat) < 1000000 by decide) ?_
  show To l E_X11_init (171, [(0, .inr (.inr 1))], [.inr (.inr 57), .inr (.inr 1)], (hpx hp0 58 TA_58 WA_70), 56, 24373) _
  refine to_putR p_c0_71 (dat dk_X11_init 80 rfl) rfl ?_
  show To l E_X11_init (174, [(0, .inr (.inr 1))], [], (hpx hp0 58 TA_58 WA_71), 56, 24373) _
  refine to_aload_np (dat dk_X11_init 81 rfl) (by decide) rfl ?_
  refine to_bipush (dat dk_X11_init 82 rfl) (by decide) ?_
  refine to_newarray 0 rfl (by decide) rfl (tin 1 82 (by decide +kernel) rfl) (dat dk_X11_init 83 rfl) (by decide) (show (58 : Nat) < 1000000 by decide) ?_
  show To l E_X11_init (179, [(0, .inr (.inr 1))], [.inr (.inr 58), .inr (.inr 1)], (hpx hp0 59 TA_59 WA_71), 57, 24433) _
  refine to_putR p_c0_75 (dat dk_X11_init 84 rfl) rfl ?_
  show To l E_X11_init (182, [(0, .inr (.inr 1))], [], (hpx hp0 59 TA_59 WA_72), 57, 24433) _
  refine to_aload_np (dat dk_X11_init 85 rfl) (by decide) rfl ?_
  refine to_bipush (dat dk_X11_init 86 rfl) (by decide) ?_
  refine to_newarray 0 rfl (by decide) rfl (tin 1 82 (by decide +kernel) rfl) (dat dk_X11_init 87 rfl) (by decide) (show (59 : Nat) < 1000000 by decide) ?_
  show To l E_X11_init (187, [(0, .inr (.inr 1))], [.inr (.inr 59), .inr (.inr 1)], (hpx hp0 60 TA_60 WA_72), 58, 24493) _
  refine to_putR p_c0_78 (dat dk_X11_init 88 rfl) rfl ?_
  show To l E_X11_init (190, [(0, .inr (.inr 1))], [], (hpx hp0 60 TA_60 WA_73), 58, 24493) _
  refine to_aload_np (dat dk_X11_init 89 rfl) (by decide) rfl ?_
  refine to_iconst (dat dk_X11_init 90 rfl) ?_
  refine to_iconst (dat dk_X11_init 91 rfl) ?_
  refine to_iconst (dat dk_X11_init 92 rfl) ?_
  refine to_iconst (dat dk_X11_init 93 rfl) ?_
  refine to_iconst (dat dk_X11_init 94 rfl) ?_
  refine to_cV ca_c0_81 (dat dk_X11_init 95 rfl) (ct_X11_makeReady_v0 l _ bb_start 0 (by decide) 0 (by decide) 0 (by decide) 0 (by decide) 0 (by decide)) rfl ⟨_, _, rfl, rfl⟩ rfl (fun H p => ?_)
  exact to_vret rfl (dat dk_X11_init 96 rfl) (rv_mka ⟨p.1, p.2, rfl, rfl⟩)
