/-! What runs behind a throw: methods that make no cell. -/
def P2_0 : List (Nat × FF) := [(0, lf (q_load isR 0 1)),
  (1, s_get 10 3 4),
  (4, lf (q_store isI up1 0 1 2 5)),
  (5, lf (q_load isR 0 6)),
  (6, lf (q_push (.inl 0) 7)),
  (7, s_put 10 3 0 10),
  (10, lf (q_load isI 1 11))]
def D2_0 : MD := (yX12_take, cX12_take, 2, (some .int), P2_0, [(11, 1)])
def P2_1 : List (Nat × FF) := [(0, lf (q_load isR 0 1)),
  (1, lf (q_load isR 0 2)),
  (2, lf (q_load isI 1 3)),
  (3, s_cV 10 2 1 21 6),
  (6, s_br1 0 13 9),
  (13, lf (q_push (.inl 1) 14)),
  (14, s_put 10 0 0 17),
  (17, lf (q_load isR 0 18)),
  (18, s_get 10 0 21),
  (21, s_br1 5 25 24)]
def D2_1 : MD := (yX12_remove, cX12_remove, 2, none, P2_1, [(24, 0)])
def P2_2 : List (Nat × FF) := [(0, lf (q_load isI 1 1)),
  (1, s_br1 2 25 4),
  (4, lf (q_load isI 1 5)),
  (5, lf (q_load isR 0 6)),
  (6, s_get 10 4 9),
  (9, s_br2 3 25 12),
  (25, lf (q_push (.inl 0) 26))]
def D2_2 : MD := (yX12_isThere, cX12_isThere, 2, (some .boolean), P2_2, [(26, 2)])
def P2_3 : List (Nat × FF) := [(0, lf (q_load isR 0 1)),
  (1, s_cV 10 0 0 21 4),
  (4, lf (q_store isI up1 0 3 7 5)),
  (5, lf (q_load isI 1 6)),
  (6, lf (q_store isI up1 0 4 7 8)),
  (8, lf (q_load isR 0 9)),
  (9, lf (q_load isI 4 11)),
  (11, s_cV 10 2 1 21 14),
  (14, s_br1 0 40 17),
  (40, lf (q_push (.inl 0) 41)),
  (41, lf (q_store isI up1 0 5 7 43)),
  (43, lf (q_load isR 0 44)),
  (44, lf (q_load isR 0 45)),
  (45, lf (q_load isI 4 47)),
  (47, s_cV 10 2 1 21 50),
  (50, s_br1 1 57 53),
  (53, lf (q_push (.inl 1) 54)),
  (54, lf (q_goto 95)),
  (95, s_put 10 0 0 98),
  (98, lf (q_load isR 0 99)),
  (99, s_get 10 0 102),
  (102, s_br1 4 119 105),
  (119, lf (q_push (.inl 0) 120))]
def D2_3 : MD := (yX12_tag, cX12_tag, 7, (some .boolean), P2_3, [(120, 2)])
def P2_4 : List (Nat × FF) := [(0, lf (q_load isR 0 1)),
  (1, s_get 10 0 4)]
def D2_4 : MD := (yX12_thrown, cX12_thrown, 1, (some .int), P2_4, [(4, 1)])
def MM2l : List MD := [D2_0, D2_1, D2_2, D2_3, D2_4]
def MM2 (i : Nat) : Option MD := MM2l[i]?
set_option maxRecDepth 100000 in
theorem mok2_0 : MOK D2_0 0 := ⟨tin 7 151 (by decide +kernel) rfl, by decide +kernel, by decide +kernel, by decide +kernel⟩
set_option maxRecDepth 100000 in
theorem mok2_1 : MOK D2_1 1 := ⟨tin 7 155 (by decide +kernel) rfl, by decide +kernel, by decide +kernel, by decide +kernel⟩
set_option maxRecDepth 100000 in
theorem mok2_2 : MOK D2_2 1 := ⟨tin 7 159 (by decide +kernel) rfl, by decide +kernel, by decide +kernel, by decide +kernel⟩
set_option maxRecDepth 100000 in
theorem mok2_3 : MOK D2_3 2 := ⟨tin 7 163 (by decide +kernel) rfl, by decide +kernel, by decide +kernel, by decide +kernel⟩
set_option maxRecDepth 100000 in
theorem mok2_4 : MOK D2_4 0 := ⟨tin 7 135 (by decide +kernel) rfl, by decide +kernel, by decide +kernel, by decide +kernel⟩
theorem fay {α : Type} {p : α → Prop} {a : α} {l : List α} (h : p a) (t : ∀ x ∈ l, p x) : ∀ x ∈ a :: l, p x := List.forall_mem_cons.mpr ⟨h, t⟩
theorem fny {α : Type} {p : α → Prop} : ∀ x ∈ ([] : List α), p x := fun _ h => absurd h List.not_mem_nil
section PRY
variable {g : GG} {HB : Heap} {l : Launch} {call : CallF}
set_option maxRecDepth 100000 in
theorem y_0_0 (hC : SndC g HB l MM2 call) : Snd g HB l call cX12_take 2 yX12_take.cls yX12_take.name 0 (lf (q_load isR 0 1)) := lf_ok (p_aload_n (by decide +kernel : decode cX12_take 0 = .ok (.aload_n 0, 1)) rfl rfl)
set_option maxRecDepth 100000 in
theorem y_0_1 (hC : SndC g HB l MM2 call) : Snd g HB l call cX12_take 2 yX12_take.cls yX12_take.name 1 (s_get 10 3 4) := h_get (k := 3) (C := RX12) (T := TX12) (N := 70) (ci := 10) rfl (by decide) (tin 6 165 (by decide +kernel) rfl)  (by decide +kernel : decode cX12_take 1 = .ok (.getfield 496, 3)) rfl
set_option maxRecDepth 100000 in
theorem y_0_4 (hC : SndC g HB l MM2 call) : Snd g HB l call cX12_take 2 yX12_take.cls yX12_take.name 4 (lf (q_store isI up1 0 1 2 5)) := lf_ok (p_istore_n (by decide +kernel : decode cX12_take 4 = .ok (.istore_n 1, 1)) rfl rfl)
set_option maxRecDepth 100000 in
theorem y_0_5 (hC : SndC g HB l MM2 call) : Snd g HB l call cX12_take 2 yX12_take.cls yX12_take.name 5 (lf (q_load isR 0 6)) := lf_ok (p_aload_n (by decide +kernel : decode cX12_take 5 = .ok (.aload_n 0, 1)) rfl rfl)
set_option maxRecDepth 100000 in
theorem y_0_6 (hC : SndC g HB l MM2 call) : Snd g HB l call cX12_take 2 yX12_take.cls yX12_take.name 6 (lf (q_push (.inl 0) 7)) := lf_ok (p_iconst (by decide +kernel : decode cX12_take 6 = .ok (.iconst 0, 1)) (by decide +kernel) rfl)
set_option maxRecDepth 100000 in
theorem y_0_7 (hC : SndC g HB l MM2 call) : Snd g HB l call cX12_take 2 yX12_take.cls yX12_take.name 7 (s_put 10 3 0 10) := h_put (k := 3) (C := RX12) (T := TX12) (N := 70) (ci := 10) rfl (by decide) rfl rfl (tin 6 165 (by decide +kernel) rfl)  (by decide +kernel : decode cX12_take 7 = .ok (.putfield 496, 3)) rfl
set_option maxRecDepth 100000 in
theorem y_0_10 (hC : SndC g HB l MM2 call) : Snd g HB l call cX12_take 2 yX12_take.cls yX12_take.name 10 (lf (q_load isI 1 11)) := lf_ok (p_iload_n (by decide +kernel : decode cX12_take 10 = .ok (.iload_n 1, 1)) rfl rfl)
set_option maxRecDepth 100000 in
theorem y_0_ok (hC : SndC g HB l MM2 call) : ∀ x ∈ P2_0, Snd g HB l call cX12_take 2 yX12_take.cls yX12_take.name x.1 x.2 := fay (y_0_0 hC) (fay (y_0_1 hC) (fay (y_0_4 hC) (fay (y_0_5 hC) (fay (y_0_6 hC) (fay (y_0_7 hC) (fay (y_0_10 hC) (fny)))))))
set_option maxRecDepth 100000 in
theorem ms2_0 : MSnd g HB l MM2 D2_0 := ⟨by decide +kernel, fun _ hC => y_0_ok hC, fay (show endOK cX12_take (some .int) 11 1 from ⟨rfl, (by decide +kernel : decode cX12_take 11 = .ok (.ireturn, 1))⟩) (fny)⟩
set_option maxRecDepth 100000 in
theorem y_1_0 (hC : SndC g HB l MM2 call) : Snd g HB l call cX12_remove 2 yX12_remove.cls yX12_remove.name 0 (lf (q_load isR 0 1)) := lf_ok (p_aload_n (by decide +kernel : decode cX12_remove 0 = .ok (.aload_n 0, 1)) rfl rfl)
set_option maxRecDepth 100000 in
theorem y_1_1 (hC : SndC g HB l MM2 call) : Snd g HB l call cX12_remove 2 yX12_remove.cls yX12_remove.name 1 (lf (q_load isR 0 2)) := lf_ok (p_aload_n (by decide +kernel : decode cX12_remove 1 = .ok (.aload_n 0, 1)) rfl rfl)
set_option maxRecDepth 100000 in
theorem y_1_2 (hC : SndC g HB l MM2 call) : Snd g HB l call cX12_remove 2 yX12_remove.cls yX12_remove.name 2 (lf (q_load isI 1 3)) := lf_ok (p_iload_n (by decide +kernel : decode cX12_remove 2 = .ok (.iload_n 1, 1)) rfl rfl)
set_option maxRecDepth 100000 in
theorem y_1_3 (hC : SndC g HB l MM2 call) : Snd g HB l call cX12_remove 2 yX12_remove.cls yX12_remove.name 3 (s_cV 10 2 1 21 6) := c_V (C := RX12) (T := TX12) (N := 70) (ci := 10) rfl hC (M := MM2) (id := 2) (d := D2_2) rfl mok2_2 rfl rfl (tin 7 156 (by decide +kernel) rfl) (tin 7 158 (by decide +kernel) rfl) (tinP (y := mdY D2_2) (n := 70) 60 (by decide +kernel)) (tin 1 12 (by decide +kernel) rfl) (by decide +kernel : decode cX12_remove 3 = .ok (.invokevirtual 505, 3)) rfl
set_option maxRecDepth 100000 in
theorem y_1_6 (hC : SndC g HB l MM2 call) : Snd g HB l call cX12_remove 2 yX12_remove.cls yX12_remove.name 6 (s_br1 0 13 9) := b_eq (by decide +kernel : decode cX12_remove 6 = .ok (.ifCond .eq 7, 3)) (by decide) rfl
set_option maxRecDepth 100000 in
theorem y_1_13 (hC : SndC g HB l MM2 call) : Snd g HB l call cX12_remove 2 yX12_remove.cls yX12_remove.name 13 (lf (q_push (.inl 1) 14)) := lf_ok (p_iconst (by decide +kernel : decode cX12_remove 13 = .ok (.iconst 1, 1)) (by decide +kernel) rfl)
set_option maxRecDepth 100000 in
theorem y_1_14 (hC : SndC g HB l MM2 call) : Snd g HB l call cX12_remove 2 yX12_remove.cls yX12_remove.name 14 (s_put 10 0 0 17) := h_put (k := 0) (C := RX12) (T := TX12) (N := 70) (ci := 10) rfl (by decide) rfl rfl (tin 6 162 (by decide +kernel) rfl)  (by decide +kernel : decode cX12_remove 14 = .ok (.putfield 154, 3)) rfl
set_option maxRecDepth 100000 in
theorem y_1_17 (hC : SndC g HB l MM2 call) : Snd g HB l call cX12_remove 2 yX12_remove.cls yX12_remove.name 17 (lf (q_load isR 0 18)) := lf_ok (p_aload_n (by decide +kernel : decode cX12_remove 17 = .ok (.aload_n 0, 1)) rfl rfl)
set_option maxRecDepth 100000 in
theorem y_1_18 (hC : SndC g HB l MM2 call) : Snd g HB l call cX12_remove 2 yX12_remove.cls yX12_remove.name 18 (s_get 10 0 21) := h_get (k := 0) (C := RX12) (T := TX12) (N := 70) (ci := 10) rfl (by decide) (tin 6 162 (by decide +kernel) rfl)  (by decide +kernel : decode cX12_remove 18 = .ok (.getfield 154, 3)) rfl
set_option maxRecDepth 100000 in
theorem y_1_21 (hC : SndC g HB l MM2 call) : Snd g HB l call cX12_remove 2 yX12_remove.cls yX12_remove.name 21 (s_br1 5 25 24) := b_le (by decide +kernel : decode cX12_remove 21 = .ok (.ifCond .le 4, 3)) (by decide) rfl
set_option maxRecDepth 100000 in
theorem y_1_ok (hC : SndC g HB l MM2 call) : ∀ x ∈ P2_1, Snd g HB l call cX12_remove 2 yX12_remove.cls yX12_remove.name x.1 x.2 := fay (y_1_0 hC) (fay (y_1_1 hC) (fay (y_1_2 hC) (fay (y_1_3 hC) (fay (y_1_6 hC) (fay (y_1_13 hC) (fay (y_1_14 hC) (fay (y_1_17 hC) (fay (y_1_18 hC) (fay (y_1_21 hC) (fny))))))))))
set_option maxRecDepth 100000 in
theorem ms2_1 : MSnd g HB l MM2 D2_1 := ⟨by decide +kernel, fun _ hC => y_1_ok hC, fay (show endOK cX12_remove none 24 0 from ⟨rfl, (by decide +kernel : decode cX12_remove 24 = .ok (.return_, 1))⟩) (fny)⟩
set_option maxRecDepth 100000 in
theorem y_2_0 (hC : SndC g HB l MM2 call) : Snd g HB l call cX12_isThere 2 yX12_isThere.cls yX12_isThere.name 0 (lf (q_load isI 1 1)) := lf_ok (p_iload_n (by decide +kernel : decode cX12_isThere 0 = .ok (.iload_n 1, 1)) rfl rfl)
set_option maxRecDepth 100000 in
theorem y_2_1 (hC : SndC g HB l MM2 call) : Snd g HB l call cX12_isThere 2 yX12_isThere.cls yX12_isThere.name 1 (s_br1 2 25 4) := b_lt (by decide +kernel : decode cX12_isThere 1 = .ok (.ifCond .lt 24, 3)) (by decide) rfl
set_option maxRecDepth 100000 in
theorem y_2_4 (hC : SndC g HB l MM2 call) : Snd g HB l call cX12_isThere 2 yX12_isThere.cls yX12_isThere.name 4 (lf (q_load isI 1 5)) := lf_ok (p_iload_n (by decide +kernel : decode cX12_isThere 4 = .ok (.iload_n 1, 1)) rfl rfl)
set_option maxRecDepth 100000 in
theorem y_2_5 (hC : SndC g HB l MM2 call) : Snd g HB l call cX12_isThere 2 yX12_isThere.cls yX12_isThere.name 5 (lf (q_load isR 0 6)) := lf_ok (p_aload_n (by decide +kernel : decode cX12_isThere 5 = .ok (.aload_n 0, 1)) rfl rfl)
set_option maxRecDepth 100000 in
theorem y_2_6 (hC : SndC g HB l MM2 call) : Snd g HB l call cX12_isThere 2 yX12_isThere.cls yX12_isThere.name 6 (s_get 10 4 9) := h_get (k := 4) (C := RX12) (T := TX12) (N := 70) (ci := 10) rfl (by decide) (tin 6 166 (by decide +kernel) rfl)  (by decide +kernel : decode cX12_isThere 6 = .ok (.getfield 382, 3)) rfl
set_option maxRecDepth 100000 in
theorem y_2_9 (hC : SndC g HB l MM2 call) : Snd g HB l call cX12_isThere 2 yX12_isThere.cls yX12_isThere.name 9 (s_br2 3 25 12) := b_ige (by decide +kernel : decode cX12_isThere 9 = .ok (.if_icmp .ge 16, 3)) (by decide) rfl
set_option maxRecDepth 100000 in
theorem y_2_25 (hC : SndC g HB l MM2 call) : Snd g HB l call cX12_isThere 2 yX12_isThere.cls yX12_isThere.name 25 (lf (q_push (.inl 0) 26)) := lf_ok (p_iconst (by decide +kernel : decode cX12_isThere 25 = .ok (.iconst 0, 1)) (by decide +kernel) rfl)
set_option maxRecDepth 100000 in
theorem y_2_ok (hC : SndC g HB l MM2 call) : ∀ x ∈ P2_2, Snd g HB l call cX12_isThere 2 yX12_isThere.cls yX12_isThere.name x.1 x.2 := fay (y_2_0 hC) (fay (y_2_1 hC) (fay (y_2_4 hC) (fay (y_2_5 hC) (fay (y_2_6 hC) (fay (y_2_9 hC) (fay (y_2_25 hC) (fny)))))))
set_option maxRecDepth 100000 in
theorem ms2_2 : MSnd g HB l MM2 D2_2 := ⟨by decide +kernel, fun _ hC => y_2_ok hC, fay (show endOK cX12_isThere (some .boolean) 26 2 from (by decide +kernel : decode cX12_isThere 26 = .ok (.ireturn, 1))) (fny)⟩
set_option maxRecDepth 100000 in
theorem y_3_0 (hC : SndC g HB l MM2 call) : Snd g HB l call cX12_tag 7 yX12_tag.cls yX12_tag.name 0 (lf (q_load isR 0 1)) := lf_ok (p_aload_n (by decide +kernel : decode cX12_tag 0 = .ok (.aload_n 0, 1)) rfl rfl)
set_option maxRecDepth 100000 in
theorem y_3_1 (hC : SndC g HB l MM2 call) : Snd g HB l call cX12_tag 7 yX12_tag.cls yX12_tag.name 1 (s_cV 10 0 0 21 4) := c_V (C := RX12) (T := TX12) (N := 70) (ci := 10) rfl hC (M := MM2) (id := 0) (d := D2_0) rfl mok2_0 rfl rfl (tin 7 148 (by decide +kernel) rfl) (tin 7 150 (by decide +kernel) rfl) (tinP (y := mdY D2_0) (n := 70) 59 (by decide +kernel)) (tin 1 12 (by decide +kernel) rfl) (by decide +kernel : decode cX12_tag 1 = .ok (.invokevirtual 502, 3)) rfl
set_option maxRecDepth 100000 in
theorem y_3_4 (hC : SndC g HB l MM2 call) : Snd g HB l call cX12_tag 7 yX12_tag.cls yX12_tag.name 4 (lf (q_store isI up1 0 3 7 5)) := lf_ok (p_istore_n (by decide +kernel : decode cX12_tag 4 = .ok (.istore_n 3, 1)) rfl rfl)
set_option maxRecDepth 100000 in
theorem y_3_5 (hC : SndC g HB l MM2 call) : Snd g HB l call cX12_tag 7 yX12_tag.cls yX12_tag.name 5 (lf (q_load isI 1 6)) := lf_ok (p_iload_n (by decide +kernel : decode cX12_tag 5 = .ok (.iload_n 1, 1)) rfl rfl)
set_option maxRecDepth 100000 in
theorem y_3_6 (hC : SndC g HB l MM2 call) : Snd g HB l call cX12_tag 7 yX12_tag.cls yX12_tag.name 6 (lf (q_store isI up1 0 4 7 8)) := lf_ok (p_istore (by decide +kernel : decode cX12_tag 6 = .ok (.istore 4, 2)) rfl)
set_option maxRecDepth 100000 in
theorem y_3_8 (hC : SndC g HB l MM2 call) : Snd g HB l call cX12_tag 7 yX12_tag.cls yX12_tag.name 8 (lf (q_load isR 0 9)) := lf_ok (p_aload_n (by decide +kernel : decode cX12_tag 8 = .ok (.aload_n 0, 1)) rfl rfl)
set_option maxRecDepth 100000 in
theorem y_3_9 (hC : SndC g HB l MM2 call) : Snd g HB l call cX12_tag 7 yX12_tag.cls yX12_tag.name 9 (lf (q_load isI 4 11)) := lf_ok (p_iload (by decide +kernel : decode cX12_tag 9 = .ok (.iload 4, 2)) rfl)
set_option maxRecDepth 100000 in
theorem y_3_11 (hC : SndC g HB l MM2 call) : Snd g HB l call cX12_tag 7 yX12_tag.cls yX12_tag.name 11 (s_cV 10 2 1 21 14) := c_V (C := RX12) (T := TX12) (N := 70) (ci := 10) rfl hC (M := MM2) (id := 2) (d := D2_2) rfl mok2_2 rfl rfl (tin 7 156 (by decide +kernel) rfl) (tin 7 158 (by decide +kernel) rfl) (tinP (y := mdY D2_2) (n := 70) 60 (by decide +kernel)) (tin 1 12 (by decide +kernel) rfl) (by decide +kernel : decode cX12_tag 11 = .ok (.invokevirtual 505, 3)) rfl
set_option maxRecDepth 100000 in
theorem y_3_14 (hC : SndC g HB l MM2 call) : Snd g HB l call cX12_tag 7 yX12_tag.cls yX12_tag.name 14 (s_br1 0 40 17) := b_eq (by decide +kernel : decode cX12_tag 14 = .ok (.ifCond .eq 26, 3)) (by decide) rfl
set_option maxRecDepth 100000 in
theorem y_3_40 (hC : SndC g HB l MM2 call) : Snd g HB l call cX12_tag 7 yX12_tag.cls yX12_tag.name 40 (lf (q_push (.inl 0) 41)) := lf_ok (p_iconst (by decide +kernel : decode cX12_tag 40 = .ok (.iconst 0, 1)) (by decide +kernel) rfl)
set_option maxRecDepth 100000 in
theorem y_3_41 (hC : SndC g HB l MM2 call) : Snd g HB l call cX12_tag 7 yX12_tag.cls yX12_tag.name 41 (lf (q_store isI up1 0 5 7 43)) := lf_ok (p_istore (by decide +kernel : decode cX12_tag 41 = .ok (.istore 5, 2)) rfl)
set_option maxRecDepth 100000 in
theorem y_3_43 (hC : SndC g HB l MM2 call) : Snd g HB l call cX12_tag 7 yX12_tag.cls yX12_tag.name 43 (lf (q_load isR 0 44)) := lf_ok (p_aload_n (by decide +kernel : decode cX12_tag 43 = .ok (.aload_n 0, 1)) rfl rfl)
set_option maxRecDepth 100000 in
theorem y_3_44 (hC : SndC g HB l MM2 call) : Snd g HB l call cX12_tag 7 yX12_tag.cls yX12_tag.name 44 (lf (q_load isR 0 45)) := lf_ok (p_aload_n (by decide +kernel : decode cX12_tag 44 = .ok (.aload_n 0, 1)) rfl rfl)
set_option maxRecDepth 100000 in
theorem y_3_45 (hC : SndC g HB l MM2 call) : Snd g HB l call cX12_tag 7 yX12_tag.cls yX12_tag.name 45 (lf (q_load isI 4 47)) := lf_ok (p_iload (by decide +kernel : decode cX12_tag 45 = .ok (.iload 4, 2)) rfl)
set_option maxRecDepth 100000 in
theorem y_3_47 (hC : SndC g HB l MM2 call) : Snd g HB l call cX12_tag 7 yX12_tag.cls yX12_tag.name 47 (s_cV 10 2 1 21 50) := c_V (C := RX12) (T := TX12) (N := 70) (ci := 10) rfl hC (M := MM2) (id := 2) (d := D2_2) rfl mok2_2 rfl rfl (tin 7 156 (by decide +kernel) rfl) (tin 7 158 (by decide +kernel) rfl) (tinP (y := mdY D2_2) (n := 70) 60 (by decide +kernel)) (tin 1 12 (by decide +kernel) rfl) (by decide +kernel : decode cX12_tag 47 = .ok (.invokevirtual 505, 3)) rfl
set_option maxRecDepth 100000 in
theorem y_3_50 (hC : SndC g HB l MM2 call) : Snd g HB l call cX12_tag 7 yX12_tag.cls yX12_tag.name 50 (s_br1 1 57 53) := b_ne (by decide +kernel : decode cX12_tag 50 = .ok (.ifCond .ne 7, 3)) (by decide) rfl
set_option maxRecDepth 100000 in
theorem y_3_53 (hC : SndC g HB l MM2 call) : Snd g HB l call cX12_tag 7 yX12_tag.cls yX12_tag.name 53 (lf (q_push (.inl 1) 54)) := lf_ok (p_iconst (by decide +kernel : decode cX12_tag 53 = .ok (.iconst 1, 1)) (by decide +kernel) rfl)
set_option maxRecDepth 100000 in
theorem y_3_54 (hC : SndC g HB l MM2 call) : Snd g HB l call cX12_tag 7 yX12_tag.cls yX12_tag.name 54 (lf (q_goto 95)) := lf_ok (p_goto (by decide +kernel : decode cX12_tag 54 = .ok (.goto 41, 3)) (by decide))
set_option maxRecDepth 100000 in
theorem y_3_95 (hC : SndC g HB l MM2 call) : Snd g HB l call cX12_tag 7 yX12_tag.cls yX12_tag.name 95 (s_put 10 0 0 98) := h_put (k := 0) (C := RX12) (T := TX12) (N := 70) (ci := 10) rfl (by decide) rfl rfl (tin 6 162 (by decide +kernel) rfl)  (by decide +kernel : decode cX12_tag 95 = .ok (.putfield 154, 3)) rfl
set_option maxRecDepth 100000 in
theorem y_3_98 (hC : SndC g HB l MM2 call) : Snd g HB l call cX12_tag 7 yX12_tag.cls yX12_tag.name 98 (lf (q_load isR 0 99)) := lf_ok (p_aload_n (by decide +kernel : decode cX12_tag 98 = .ok (.aload_n 0, 1)) rfl rfl)
set_option maxRecDepth 100000 in
theorem y_3_99 (hC : SndC g HB l MM2 call) : Snd g HB l call cX12_tag 7 yX12_tag.cls yX12_tag.name 99 (s_get 10 0 102) := h_get (k := 0) (C := RX12) (T := TX12) (N := 70) (ci := 10) rfl (by decide) (tin 6 162 (by decide +kernel) rfl)  (by decide +kernel : decode cX12_tag 99 = .ok (.getfield 154, 3)) rfl
set_option maxRecDepth 100000 in
theorem y_3_102 (hC : SndC g HB l MM2 call) : Snd g HB l call cX12_tag 7 yX12_tag.cls yX12_tag.name 102 (s_br1 4 119 105) := b_gt (by decide +kernel : decode cX12_tag 102 = .ok (.ifCond .gt 17, 3)) (by decide) rfl
set_option maxRecDepth 100000 in
theorem y_3_119 (hC : SndC g HB l MM2 call) : Snd g HB l call cX12_tag 7 yX12_tag.cls yX12_tag.name 119 (lf (q_push (.inl 0) 120)) := lf_ok (p_iconst (by decide +kernel : decode cX12_tag 119 = .ok (.iconst 0, 1)) (by decide +kernel) rfl)
set_option maxRecDepth 100000 in
theorem y_3_ok (hC : SndC g HB l MM2 call) : ∀ x ∈ P2_3, Snd g HB l call cX12_tag 7 yX12_tag.cls yX12_tag.name x.1 x.2 := fay (y_3_0 hC) (fay (y_3_1 hC) (fay (y_3_4 hC) (fay (y_3_5 hC) (fay (y_3_6 hC) (fay (y_3_8 hC) (fay (y_3_9 hC) (fay (y_3_11 hC) (fay (y_3_14 hC) (fay (y_3_40 hC) (fay (y_3_41 hC) (fay (y_3_43 hC) (fay (y_3_44 hC) (fay (y_3_45 hC) (fay (y_3_47 hC) (fay (y_3_50 hC) (fay (y_3_53 hC) (fay (y_3_54 hC) (fay (y_3_95 hC) (fay (y_3_98 hC) (fay (y_3_99 hC) (fay (y_3_102 hC) (fay (y_3_119 hC) (fny)))))))))))))))))))))))
set_option maxRecDepth 100000 in
theorem ms2_3 : MSnd g HB l MM2 D2_3 := ⟨by decide +kernel, fun _ hC => y_3_ok hC, fay (show endOK cX12_tag (some .boolean) 120 2 from (by decide +kernel : decode cX12_tag 120 = .ok (.ireturn, 1))) (fny)⟩
set_option maxRecDepth 100000 in
theorem y_4_0 (hC : SndC g HB l MM2 call) : Snd g HB l call cX12_thrown 1 yX12_thrown.cls yX12_thrown.name 0 (lf (q_load isR 0 1)) := lf_ok (p_aload_n (by decide +kernel : decode cX12_thrown 0 = .ok (.aload_n 0, 1)) rfl rfl)
set_option maxRecDepth 100000 in
theorem y_4_1 (hC : SndC g HB l MM2 call) : Snd g HB l call cX12_thrown 1 yX12_thrown.cls yX12_thrown.name 1 (s_get 10 0 4) := h_get (k := 0) (C := RX12) (T := TX12) (N := 70) (ci := 10) rfl (by decide) (tin 6 162 (by decide +kernel) rfl)  (by decide +kernel : decode cX12_thrown 1 = .ok (.getfield 154, 3)) rfl
set_option maxRecDepth 100000 in
theorem y_4_ok (hC : SndC g HB l MM2 call) : ∀ x ∈ P2_4, Snd g HB l call cX12_thrown 1 yX12_thrown.cls yX12_thrown.name x.1 x.2 := fay (y_4_0 hC) (fay (y_4_1 hC) (fny))
set_option maxRecDepth 100000 in
theorem ms2_4 : MSnd g HB l MM2 D2_4 := ⟨by decide +kernel, fun _ hC => y_4_ok hC, fay (show endOK cX12_thrown (some .int) 4 1 from ⟨rfl, (by decide +kernel : decode cX12_thrown 4 = .ok (.ireturn, 1))⟩) (fny)⟩
end PRY
set_option maxRecDepth 100000 in
theorem all2_ok {g : GG} {HB : Heap} {l : Launch} : ∀ id d, MM2 id = some d → MSnd g HB l MM2 d := by
  intro id d h
  have hm : d ∈ MM2l := List.mem_of_getElem? h
  simp only [MM2l, List.mem_cons, List.not_mem_nil, or_false] at hm
  rcases hm with rfl | rfl | rfl | rfl | rfl
  · exact ms2_0
  · exact ms2_1
  · exact ms2_2
  · exact ms2_3
  · exact ms2_4
def PLC (L0 : Nat) (sc : Nat → AV) : List (Nat × FF) := [(23, lf (q_load isI 4 25)),
  (25, lf (q_load isR 0 26)),
  (26, s_slen L0 27),
  (27, lf (q_push (.inl 6) 29)),
  (29, lf (q_bin (iop2 (fun x y => x - y)) 30)),
  (30, s_br2 4 624 33),
  (258, lf (q_store isI up1 0 5 7 260)),
  (260, lf (q_load isR 2 261)),
  (261, lf (q_load isR 0 262)),
  (262, lf (q_load isI 4 264)),
  (264, lf (q_push (.inl 1) 265)),
  (265, lf (q_bin (iop2 (fun x y => x + y)) 266)),
  (266, s_sld L0 sc 267),
  (267, s_cV 10 1 1 21 270),
  (270, lf (q_load isR 2 271)),
  (271, s_cV 10 4 0 20 274),
  (274, lf (q_load isI 5 276)),
  (276, s_br2 0 281 279),
  (281, lf (q_goto 618)),
  (309, lf (q_store isI up1 0 5 7 311)),
  (311, lf (q_load isR 2 312)),
  (312, lf (q_load isR 0 313)),
  (313, lf (q_load isI 4 315)),
  (315, lf (q_push (.inl 1) 316)),
  (316, lf (q_bin (iop2 (fun x y => x + y)) 317)),
  (317, s_sld L0 sc 318),
  (318, lf (q_load isR 0 319)),
  (319, lf (q_load isI 4 321)),
  (321, lf (q_push (.inl 2) 322)),
  (322, lf (q_bin (iop2 (fun x y => x + y)) 323)),
  (323, s_sld L0 sc 324),
  (324, s_br1 0 331 327),
  (327, lf (q_push (.inl 1) 328)),
  (328, lf (q_goto 332)),
  (331, lf (q_push (.inl 0) 332)),
  (332, s_cV 10 3 2 26 335),
  (335, lf (q_store isI up1 0 6 7 337)),
  (337, lf (q_load isR 2 338)),
  (338, s_cV 10 4 0 20 341),
  (341, lf (q_load isI 5 343)),
  (343, s_br2 0 348 346),
  (348, lf (q_load isI 5 350)),
  (350, s_br1 1 372 353),
  (372, lf (q_goto 618)),
  (618, lf (q_iinc 4 6 7 621)),
  (621, lf (q_goto 23)),
  (624, lf (q_push (.inl 1) 625))]
section PRZ
variable {g : GG} {HB : Heap} {l : Launch} {call : CallF} {L0 : Nat} {sc : Nat → AV}
set_option maxRecDepth 100000 in
theorem z_23 (hC : SndC g HB l MM2 call) : Snd g HB l call cL_law 7 yL_law.cls yL_law.name 23 (lf (q_load isI 4 25)) := lf_ok (p_iload (by decide +kernel : decode cL_law 23 = .ok (.iload 4, 2)) rfl)
set_option maxRecDepth 100000 in
theorem z_25 (hC : SndC g HB l MM2 call) : Snd g HB l call cL_law 7 yL_law.cls yL_law.name 25 (lf (q_load isR 0 26)) := lf_ok (p_aload_n (by decide +kernel : decode cL_law 25 = .ok (.aload_n 0, 1)) rfl rfl)
set_option maxRecDepth 100000 in
theorem z_26 (hC : SndC g HB l MM2 call) (hL : g.2.1 91 = L0) : Snd g HB l call cL_law 7 yL_law.cls yL_law.name 26 (s_slen L0 27) := m_slen hL (by decide +kernel : decode cL_law 26 = .ok (.arraylength, 1)) rfl
set_option maxRecDepth 100000 in
theorem z_27 (hC : SndC g HB l MM2 call) : Snd g HB l call cL_law 7 yL_law.cls yL_law.name 27 (lf (q_push (.inl 6) 29)) := lf_ok (p_bipush (by decide +kernel : decode cL_law 27 = .ok (.bipush 6, 2)) (by decide +kernel) rfl)
set_option maxRecDepth 100000 in
theorem z_29 (hC : SndC g HB l MM2 call) : Snd g HB l call cL_law 7 yL_law.cls yL_law.name 29 (lf (q_bin (iop2 (fun x y => x - y)) 30)) := lf_ok (p_isub (by decide +kernel : decode cL_law 29 = .ok (.isub, 1)) rfl)
set_option maxRecDepth 100000 in
theorem z_30 (hC : SndC g HB l MM2 call) : Snd g HB l call cL_law 7 yL_law.cls yL_law.name 30 (s_br2 4 624 33) := b_igt (by decide +kernel : decode cL_law 30 = .ok (.if_icmp .gt 594, 3)) (by decide) rfl
set_option maxRecDepth 100000 in
theorem z_258 (hC : SndC g HB l MM2 call) : Snd g HB l call cL_law 7 yL_law.cls yL_law.name 258 (lf (q_store isI up1 0 5 7 260)) := lf_ok (p_istore (by decide +kernel : decode cL_law 258 = .ok (.istore 5, 2)) rfl)
set_option maxRecDepth 100000 in
theorem z_260 (hC : SndC g HB l MM2 call) : Snd g HB l call cL_law 7 yL_law.cls yL_law.name 260 (lf (q_load isR 2 261)) := lf_ok (p_aload_n (by decide +kernel : decode cL_law 260 = .ok (.aload_n 2, 1)) rfl rfl)
set_option maxRecDepth 100000 in
theorem z_261 (hC : SndC g HB l MM2 call) : Snd g HB l call cL_law 7 yL_law.cls yL_law.name 261 (lf (q_load isR 0 262)) := lf_ok (p_aload_n (by decide +kernel : decode cL_law 261 = .ok (.aload_n 0, 1)) rfl rfl)
set_option maxRecDepth 100000 in
theorem z_262 (hC : SndC g HB l MM2 call) : Snd g HB l call cL_law 7 yL_law.cls yL_law.name 262 (lf (q_load isI 4 264)) := lf_ok (p_iload (by decide +kernel : decode cL_law 262 = .ok (.iload 4, 2)) rfl)
set_option maxRecDepth 100000 in
theorem z_264 (hC : SndC g HB l MM2 call) : Snd g HB l call cL_law 7 yL_law.cls yL_law.name 264 (lf (q_push (.inl 1) 265)) := lf_ok (p_iconst (by decide +kernel : decode cL_law 264 = .ok (.iconst 1, 1)) (by decide +kernel) rfl)
set_option maxRecDepth 100000 in
theorem z_265 (hC : SndC g HB l MM2 call) : Snd g HB l call cL_law 7 yL_law.cls yL_law.name 265 (lf (q_bin (iop2 (fun x y => x + y)) 266)) := lf_ok (p_iadd (by decide +kernel : decode cL_law 265 = .ok (.iadd, 1)) rfl)
set_option maxRecDepth 100000 in
theorem z_266 (hC : SndC g HB l MM2 call) (hL : g.2.1 91 = L0) (hsc : ∀ j, j < L0 → cV g (sc j) = .int (nI (g.2.1 (2000 + j)))) : Snd g HB l call cL_law 7 yL_law.cls yL_law.name 266 (s_sld L0 sc 267) := m_sld hL hsc (by decide +kernel : decode cL_law 266 = .ok (.iaload, 1)) rfl
set_option maxRecDepth 100000 in
theorem z_267 (hC : SndC g HB l MM2 call) : Snd g HB l call cL_law 7 yL_law.cls yL_law.name 267 (s_cV 10 1 1 21 270) := c_V (C := RX12) (T := TX12) (N := 70) (ci := 10) rfl hC (M := MM2) (id := 1) (d := D2_1) rfl mok2_1 rfl rfl (tin 7 152 (by decide +kernel) rfl) (tin 7 153 (by decide +kernel) rfl) (tin 7 154 (by decide +kernel) rfl) (tin 1 12 (by decide +kernel) rfl) (by decide +kernel : decode cL_law 267 = .ok (.invokevirtual 56, 3)) rfl
set_option maxRecDepth 100000 in
theorem z_270 (hC : SndC g HB l MM2 call) : Snd g HB l call cL_law 7 yL_law.cls yL_law.name 270 (lf (q_load isR 2 271)) := lf_ok (p_aload_n (by decide +kernel : decode cL_law 270 = .ok (.aload_n 2, 1)) rfl rfl)
set_option maxRecDepth 100000 in
theorem z_271 (hC : SndC g HB l MM2 call) : Snd g HB l call cL_law 7 yL_law.cls yL_law.name 271 (s_cV 10 4 0 20 274) := c_V (C := RX12) (T := TX12) (N := 70) (ci := 10) rfl hC (M := MM2) (id := 4) (d := D2_4) rfl mok2_4 rfl rfl (tin 7 132 (by decide +kernel) rfl) (tin 7 133 (by decide +kernel) rfl) (tin 7 134 (by decide +kernel) rfl) (tin 1 12 (by decide +kernel) rfl) (by decide +kernel : decode cL_law 271 = .ok (.invokevirtual 50, 3)) rfl
set_option maxRecDepth 100000 in
theorem z_274 (hC : SndC g HB l MM2 call) : Snd g HB l call cL_law 7 yL_law.cls yL_law.name 274 (lf (q_load isI 5 276)) := lf_ok (p_iload (by decide +kernel : decode cL_law 274 = .ok (.iload 5, 2)) rfl)
set_option maxRecDepth 100000 in
theorem z_276 (hC : SndC g HB l MM2 call) : Snd g HB l call cL_law 7 yL_law.cls yL_law.name 276 (s_br2 0 281 279) := b_ieq (by decide +kernel : decode cL_law 276 = .ok (.if_icmp .eq 5, 3)) (by decide) rfl
set_option maxRecDepth 100000 in
theorem z_281 (hC : SndC g HB l MM2 call) : Snd g HB l call cL_law 7 yL_law.cls yL_law.name 281 (lf (q_goto 618)) := lf_ok (p_goto (by decide +kernel : decode cL_law 281 = .ok (.goto 337, 3)) (by decide))
set_option maxRecDepth 100000 in
theorem z_309 (hC : SndC g HB l MM2 call) : Snd g HB l call cL_law 7 yL_law.cls yL_law.name 309 (lf (q_store isI up1 0 5 7 311)) := lf_ok (p_istore (by decide +kernel : decode cL_law 309 = .ok (.istore 5, 2)) rfl)
set_option maxRecDepth 100000 in
theorem z_311 (hC : SndC g HB l MM2 call) : Snd g HB l call cL_law 7 yL_law.cls yL_law.name 311 (lf (q_load isR 2 312)) := lf_ok (p_aload_n (by decide +kernel : decode cL_law 311 = .ok (.aload_n 2, 1)) rfl rfl)
set_option maxRecDepth 100000 in
theorem z_312 (hC : SndC g HB l MM2 call) : Snd g HB l call cL_law 7 yL_law.cls yL_law.name 312 (lf (q_load isR 0 313)) := lf_ok (p_aload_n (by decide +kernel : decode cL_law 312 = .ok (.aload_n 0, 1)) rfl rfl)
set_option maxRecDepth 100000 in
theorem z_313 (hC : SndC g HB l MM2 call) : Snd g HB l call cL_law 7 yL_law.cls yL_law.name 313 (lf (q_load isI 4 315)) := lf_ok (p_iload (by decide +kernel : decode cL_law 313 = .ok (.iload 4, 2)) rfl)
set_option maxRecDepth 100000 in
theorem z_315 (hC : SndC g HB l MM2 call) : Snd g HB l call cL_law 7 yL_law.cls yL_law.name 315 (lf (q_push (.inl 1) 316)) := lf_ok (p_iconst (by decide +kernel : decode cL_law 315 = .ok (.iconst 1, 1)) (by decide +kernel) rfl)
set_option maxRecDepth 100000 in
theorem z_316 (hC : SndC g HB l MM2 call) : Snd g HB l call cL_law 7 yL_law.cls yL_law.name 316 (lf (q_bin (iop2 (fun x y => x + y)) 317)) := lf_ok (p_iadd (by decide +kernel : decode cL_law 316 = .ok (.iadd, 1)) rfl)
set_option maxRecDepth 100000 in
theorem z_317 (hC : SndC g HB l MM2 call) (hL : g.2.1 91 = L0) (hsc : ∀ j, j < L0 → cV g (sc j) = .int (nI (g.2.1 (2000 + j)))) : Snd g HB l call cL_law 7 yL_law.cls yL_law.name 317 (s_sld L0 sc 318) := m_sld hL hsc (by decide +kernel : decode cL_law 317 = .ok (.iaload, 1)) rfl
set_option maxRecDepth 100000 in
theorem z_318 (hC : SndC g HB l MM2 call) : Snd g HB l call cL_law 7 yL_law.cls yL_law.name 318 (lf (q_load isR 0 319)) := lf_ok (p_aload_n (by decide +kernel : decode cL_law 318 = .ok (.aload_n 0, 1)) rfl rfl)
set_option maxRecDepth 100000 in
theorem z_319 (hC : SndC g HB l MM2 call) : Snd g HB l call cL_law 7 yL_law.cls yL_law.name 319 (lf (q_load isI 4 321)) := lf_ok (p_iload (by decide +kernel : decode cL_law 319 = .ok (.iload 4, 2)) rfl)
set_option maxRecDepth 100000 in
theorem z_321 (hC : SndC g HB l MM2 call) : Snd g HB l call cL_law 7 yL_law.cls yL_law.name 321 (lf (q_push (.inl 2) 322)) := lf_ok (p_iconst (by decide +kernel : decode cL_law 321 = .ok (.iconst 2, 1)) (by decide +kernel) rfl)
set_option maxRecDepth 100000 in
theorem z_322 (hC : SndC g HB l MM2 call) : Snd g HB l call cL_law 7 yL_law.cls yL_law.name 322 (lf (q_bin (iop2 (fun x y => x + y)) 323)) := lf_ok (p_iadd (by decide +kernel : decode cL_law 322 = .ok (.iadd, 1)) rfl)
set_option maxRecDepth 100000 in
theorem z_323 (hC : SndC g HB l MM2 call) (hL : g.2.1 91 = L0) (hsc : ∀ j, j < L0 → cV g (sc j) = .int (nI (g.2.1 (2000 + j)))) : Snd g HB l call cL_law 7 yL_law.cls yL_law.name 323 (s_sld L0 sc 324) := m_sld hL hsc (by decide +kernel : decode cL_law 323 = .ok (.iaload, 1)) rfl
set_option maxRecDepth 100000 in
theorem z_324 (hC : SndC g HB l MM2 call) : Snd g HB l call cL_law 7 yL_law.cls yL_law.name 324 (s_br1 0 331 327) := b_eq (by decide +kernel : decode cL_law 324 = .ok (.ifCond .eq 7, 3)) (by decide) rfl
set_option maxRecDepth 100000 in
theorem z_327 (hC : SndC g HB l MM2 call) : Snd g HB l call cL_law 7 yL_law.cls yL_law.name 327 (lf (q_push (.inl 1) 328)) := lf_ok (p_iconst (by decide +kernel : decode cL_law 327 = .ok (.iconst 1, 1)) (by decide +kernel) rfl)
set_option maxRecDepth 100000 in
theorem z_328 (hC : SndC g HB l MM2 call) : Snd g HB l call cL_law 7 yL_law.cls yL_law.name 328 (lf (q_goto 332)) := lf_ok (p_goto (by decide +kernel : decode cL_law 328 = .ok (.goto 4, 3)) (by decide))
set_option maxRecDepth 100000 in
theorem z_331 (hC : SndC g HB l MM2 call) : Snd g HB l call cL_law 7 yL_law.cls yL_law.name 331 (lf (q_push (.inl 0) 332)) := lf_ok (p_iconst (by decide +kernel : decode cL_law 331 = .ok (.iconst 0, 1)) (by decide +kernel) rfl)
set_option maxRecDepth 100000 in
theorem z_332 (hC : SndC g HB l MM2 call) : Snd g HB l call cL_law 7 yL_law.cls yL_law.name 332 (s_cV 10 3 2 26 335) := c_V (C := RX12) (T := TX12) (N := 70) (ci := 10) rfl hC (M := MM2) (id := 3) (d := D2_3) rfl mok2_3 rfl rfl (tin 7 160 (by decide +kernel) rfl) (tin 7 161 (by decide +kernel) rfl) (tin 7 162 (by decide +kernel) rfl) (tin 1 12 (by decide +kernel) rfl) (by decide +kernel : decode cL_law 332 = .ok (.invokevirtual 60, 3)) rfl
set_option maxRecDepth 100000 in
theorem z_335 (hC : SndC g HB l MM2 call) : Snd g HB l call cL_law 7 yL_law.cls yL_law.name 335 (lf (q_store isI up1 0 6 7 337)) := lf_ok (p_istore (by decide +kernel : decode cL_law 335 = .ok (.istore 6, 2)) rfl)
set_option maxRecDepth 100000 in
theorem z_337 (hC : SndC g HB l MM2 call) : Snd g HB l call cL_law 7 yL_law.cls yL_law.name 337 (lf (q_load isR 2 338)) := lf_ok (p_aload_n (by decide +kernel : decode cL_law 337 = .ok (.aload_n 2, 1)) rfl rfl)
set_option maxRecDepth 100000 in
theorem z_338 (hC : SndC g HB l MM2 call) : Snd g HB l call cL_law 7 yL_law.cls yL_law.name 338 (s_cV 10 4 0 20 341) := c_V (C := RX12) (T := TX12) (N := 70) (ci := 10) rfl hC (M := MM2) (id := 4) (d := D2_4) rfl mok2_4 rfl rfl (tin 7 132 (by decide +kernel) rfl) (tin 7 133 (by decide +kernel) rfl) (tin 7 134 (by decide +kernel) rfl) (tin 1 12 (by decide +kernel) rfl) (by decide +kernel : decode cL_law 338 = .ok (.invokevirtual 50, 3)) rfl
set_option maxRecDepth 100000 in
theorem z_341 (hC : SndC g HB l MM2 call) : Snd g HB l call cL_law 7 yL_law.cls yL_law.name 341 (lf (q_load isI 5 343)) := lf_ok (p_iload (by decide +kernel : decode cL_law 341 = .ok (.iload 5, 2)) rfl)
set_option maxRecDepth 100000 in
theorem z_343 (hC : SndC g HB l MM2 call) : Snd g HB l call cL_law 7 yL_law.cls yL_law.name 343 (s_br2 0 348 346) := b_ieq (by decide +kernel : decode cL_law 343 = .ok (.if_icmp .eq 5, 3)) (by decide) rfl
set_option maxRecDepth 100000 in
theorem z_348 (hC : SndC g HB l MM2 call) : Snd g HB l call cL_law 7 yL_law.cls yL_law.name 348 (lf (q_load isI 5 350)) := lf_ok (p_iload (by decide +kernel : decode cL_law 348 = .ok (.iload 5, 2)) rfl)
set_option maxRecDepth 100000 in
theorem z_350 (hC : SndC g HB l MM2 call) : Snd g HB l call cL_law 7 yL_law.cls yL_law.name 350 (s_br1 1 372 353) := b_ne (by decide +kernel : decode cL_law 350 = .ok (.ifCond .ne 22, 3)) (by decide) rfl
set_option maxRecDepth 100000 in
theorem z_372 (hC : SndC g HB l MM2 call) : Snd g HB l call cL_law 7 yL_law.cls yL_law.name 372 (lf (q_goto 618)) := lf_ok (p_goto (by decide +kernel : decode cL_law 372 = .ok (.goto 246, 3)) (by decide))
set_option maxRecDepth 100000 in
theorem z_618 (hC : SndC g HB l MM2 call) : Snd g HB l call cL_law 7 yL_law.cls yL_law.name 618 (lf (q_iinc 4 6 7 621)) := lf_ok (p_iinc (by decide +kernel : decode cL_law 618 = .ok (.iinc 4 6, 3)) rfl)
set_option maxRecDepth 100000 in
theorem z_621 (hC : SndC g HB l MM2 call) : Snd g HB l call cL_law 7 yL_law.cls yL_law.name 621 (lf (q_goto 23)) := lf_ok (p_goto (by decide +kernel : decode cL_law 621 = .ok (.goto (-598), 3)) (by decide))
set_option maxRecDepth 100000 in
theorem z_624 (hC : SndC g HB l MM2 call) : Snd g HB l call cL_law 7 yL_law.cls yL_law.name 624 (lf (q_push (.inl 1) 625)) := lf_ok (p_iconst (by decide +kernel : decode cL_law 624 = .ok (.iconst 1, 1)) (by decide +kernel) rfl)
set_option maxRecDepth 100000 in
theorem z_ok (hL : g.2.1 91 = L0) (hsc : ∀ j, j < L0 → cV g (sc j) = .int (nI (g.2.1 (2000 + j)))) (hC : SndC g HB l MM2 call) : ∀ x ∈ PLC L0 sc, Snd g HB l call cL_law 7 yL_law.cls yL_law.name x.1 x.2 := fay (z_23 hC) (fay (z_25 hC) (fay (z_26 hC hL) (fay (z_27 hC) (fay (z_29 hC) (fay (z_30 hC) (fay (z_258 hC) (fay (z_260 hC) (fay (z_261 hC) (fay (z_262 hC) (fay (z_264 hC) (fay (z_265 hC) (fay (z_266 hC hL hsc) (fay (z_267 hC) (fay (z_270 hC) (fay (z_271 hC) (fay (z_274 hC) (fay (z_276 hC) (fay (z_281 hC) (fay (z_309 hC) (fay (z_311 hC) (fay (z_312 hC) (fay (z_313 hC) (fay (z_315 hC) (fay (z_316 hC) (fay (z_317 hC hL hsc) (fay (z_318 hC) (fay (z_319 hC) (fay (z_321 hC) (fay (z_322 hC) (fay (z_323 hC hL hsc) (fay (z_324 hC) (fay (z_327 hC) (fay (z_328 hC) (fay (z_331 hC) (fay (z_332 hC) (fay (z_335 hC) (fay (z_337 hC) (fay (z_338 hC) (fay (z_341 hC) (fay (z_343 hC) (fay (z_348 hC) (fay (z_350 hC) (fay (z_372 hC) (fay (z_618 hC) (fay (z_621 hC) (fay (z_624 hC) (fny)))))))))))))))))))))))))))))))))))))))))))))))
end PRZ
