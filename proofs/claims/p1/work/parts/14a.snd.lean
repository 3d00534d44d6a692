/-! Each reached instruction does what its step computes. -/
theorem fa0 {α : Type} {p : α → Prop} {a : α} {l : List α} (h : p a) (t : ∀ x ∈ l, p x) : ∀ x ∈ a :: l, p x := List.forall_mem_cons.mpr ⟨h, t⟩
theorem fn0 {α : Type} {p : α → Prop} : ∀ x ∈ ([] : List α), p x := fun _ h => absurd h List.not_mem_nil
section PR0
variable {g : GG} {HB : Heap} {l : Launch} {call : CallF}
set_option maxRecDepth 100000 in
theorem s_0_0 (hC : SndC g HB l MM call) : Snd g HB l call cX11_init 1 yX11_init.cls yX11_init.name 0 (lf (q_load isR 0 1)) := lf_ok (p_aload_n (by decide +kernel : decode cX11_init 0 = .ok (.aload_n 0, 1)) rfl rfl)
set_option maxRecDepth 100000 in
theorem s_0_1 (hC : SndC g HB l MM call) : Snd g HB l call cX11_init 1 yX11_init.cls yX11_init.name 1 (s_obj 4) := m_obj (tin 1 37 (by decide +kernel) rfl) (tin 1 38 (by decide +kernel) rfl) (tin 1 39 (by decide +kernel) rfl) (by decide +kernel : decode cX11_init 1 = .ok (.invokespecial 1, 3)) rfl
set_option maxRecDepth 100000 in
theorem s_0_4 (hC : SndC g HB l MM call) : Snd g HB l call cX11_init 1 yX11_init.cls yX11_init.name 4 (lf (q_load isR 0 5)) := lf_ok (p_aload_n (by decide +kernel : decode cX11_init 4 = .ok (.aload_n 0, 1)) rfl rfl)
set_option maxRecDepth 100000 in
theorem s_0_5 (hC : SndC g HB l MM call) (hex : HB.size = g.1) : Snd g HB l call cX11_init 1 yX11_init.cls yX11_init.name 5 (s_new 2 2 [.inr (.inr .null), .inl 0] 8) := h_new hex (C := RX1) (T := TX1) (N := 2) (ci := 2) rfl (by decide +kernel) (by decide +kernel) (tin 1 40 (by decide +kernel) rfl) (tin 1 41 (by decide +kernel) rfl) (tin 1 2 (by decide +kernel) rfl) (by decide +kernel : decode cX11_init 5 = .ok (.new 7, 3)) rfl
set_option maxRecDepth 100000 in
theorem s_0_8 (hC : SndC g HB l MM call) : Snd g HB l call cX11_init 1 yX11_init.cls yX11_init.name 8 (lf (q_dup 9)) := lf_ok (p_dup (by decide +kernel : decode cX11_init 8 = .ok (.dup, 1)) rfl)
set_option maxRecDepth 100000 in
theorem s_0_9 (hC : SndC g HB l MM call) : Snd g HB l call cX11_init 1 yX11_init.cls yX11_init.name 9 (lf (q_push (.inl 20) 11)) := lf_ok (p_bipush (by decide +kernel : decode cX11_init 9 = .ok (.bipush 20, 2)) (by decide +kernel) rfl)
set_option maxRecDepth 100000 in
theorem s_0_11 (hC : SndC g HB l MM call) : Snd g HB l call cX11_init 1 yX11_init.cls yX11_init.name 11 (s_cI 1 1 21 14) := c_I hC (M := MM) (id := 1) (d := D_1) rfl mok_1 rfl rfl rfl (tin 1 42 (by decide +kernel) rfl) (tin 1 43 (by decide +kernel) rfl) (tin 1 2 (by decide +kernel) rfl) (by decide +kernel : decode cX11_init 11 = .ok (.invokespecial 11, 3)) rfl
set_option maxRecDepth 100000 in
theorem s_0_14 (hC : SndC g HB l MM call) : Snd g HB l call cX11_init 1 yX11_init.cls yX11_init.name 14 (s_put 9 0 3 17) := h_putF (k := 0) (C := RX11) (T := TX11) (N := 17) (ci := 9) rfl (by decide) rfl rfl rfl (Or.inl ⟨_, rfl⟩) (tin 2 95 (by decide +kernel) rfl) (by decide +kernel : decode cX11_init 14 = .ok (.putfield 14, 3)) rfl
set_option maxRecDepth 100000 in
theorem s_0_17 (hC : SndC g HB l MM call) : Snd g HB l call cX11_init 1 yX11_init.cls yX11_init.name 17 (lf (q_load isR 0 18)) := lf_ok (p_aload_n (by decide +kernel : decode cX11_init 17 = .ok (.aload_n 0, 1)) rfl rfl)
set_option maxRecDepth 100000 in
theorem s_0_18 (hC : SndC g HB l MM call) (hex : HB.size = g.1) : Snd g HB l call cX11_init 1 yX11_init.cls yX11_init.name 18 (s_new 2 2 [.inr (.inr .null), .inl 0] 21) := h_new hex (C := RX1) (T := TX1) (N := 2) (ci := 2) rfl (by decide +kernel) (by decide +kernel) (tin 1 40 (by decide +kernel) rfl) (tin 1 41 (by decide +kernel) rfl) (tin 1 2 (by decide +kernel) rfl) (by decide +kernel : decode cX11_init 18 = .ok (.new 7, 3)) rfl
set_option maxRecDepth 100000 in
theorem s_0_21 (hC : SndC g HB l MM call) : Snd g HB l call cX11_init 1 yX11_init.cls yX11_init.name 21 (lf (q_dup 22)) := lf_ok (p_dup (by decide +kernel : decode cX11_init 21 = .ok (.dup, 1)) rfl)
set_option maxRecDepth 100000 in
theorem s_0_22 (hC : SndC g HB l MM call) : Snd g HB l call cX11_init 1 yX11_init.cls yX11_init.name 22 (lf (q_push (.inl 1200) 25)) := lf_ok (p_sipush (by decide +kernel : decode cX11_init 22 = .ok (.sipush 1200, 3)) (by decide +kernel) rfl)
set_option maxRecDepth 100000 in
theorem s_0_25 (hC : SndC g HB l MM call) : Snd g HB l call cX11_init 1 yX11_init.cls yX11_init.name 25 (s_cI 1 1 21 28) := c_I hC (M := MM) (id := 1) (d := D_1) rfl mok_1 rfl rfl rfl (tin 1 42 (by decide +kernel) rfl) (tin 1 43 (by decide +kernel) rfl) (tin 1 2 (by decide +kernel) rfl) (by decide +kernel : decode cX11_init 25 = .ok (.invokespecial 11, 3)) rfl
set_option maxRecDepth 100000 in
theorem s_0_28 (hC : SndC g HB l MM call) : Snd g HB l call cX11_init 1 yX11_init.cls yX11_init.name 28 (s_put 9 1 3 31) := h_putF (k := 1) (C := RX11) (T := TX11) (N := 17) (ci := 9) rfl (by decide) rfl rfl rfl (Or.inl ⟨_, rfl⟩) (tin 2 96 (by decide +kernel) rfl) (by decide +kernel : decode cX11_init 28 = .ok (.putfield 18, 3)) rfl
set_option maxRecDepth 100000 in
theorem s_0_31 (hC : SndC g HB l MM call) : Snd g HB l call cX11_init 1 yX11_init.cls yX11_init.name 31 (lf (q_load isR 0 32)) := lf_ok (p_aload_n (by decide +kernel : decode cX11_init 31 = .ok (.aload_n 0, 1)) rfl rfl)
set_option maxRecDepth 100000 in
theorem s_0_32 (hC : SndC g HB l MM call) (hex : HB.size = g.1) : Snd g HB l call cX11_init 1 yX11_init.cls yX11_init.name 32 (s_new 2 2 [.inr (.inr .null), .inl 0] 35) := h_new hex (C := RX1) (T := TX1) (N := 2) (ci := 2) rfl (by decide +kernel) (by decide +kernel) (tin 1 40 (by decide +kernel) rfl) (tin 1 41 (by decide +kernel) rfl) (tin 1 2 (by decide +kernel) rfl) (by decide +kernel : decode cX11_init 32 = .ok (.new 7, 3)) rfl
set_option maxRecDepth 100000 in
theorem s_0_35 (hC : SndC g HB l MM call) : Snd g HB l call cX11_init 1 yX11_init.cls yX11_init.name 35 (lf (q_dup 36)) := lf_ok (p_dup (by decide +kernel : decode cX11_init 35 = .ok (.dup, 1)) rfl)
set_option maxRecDepth 100000 in
theorem s_0_36 (hC : SndC g HB l MM call) : Snd g HB l call cX11_init 1 yX11_init.cls yX11_init.name 36 (lf (q_push (.inl 1200) 39)) := lf_ok (p_sipush (by decide +kernel : decode cX11_init 36 = .ok (.sipush 1200, 3)) (by decide +kernel) rfl)
set_option maxRecDepth 100000 in
theorem s_0_39 (hC : SndC g HB l MM call) : Snd g HB l call cX11_init 1 yX11_init.cls yX11_init.name 39 (s_cI 1 1 21 42) := c_I hC (M := MM) (id := 1) (d := D_1) rfl mok_1 rfl rfl rfl (tin 1 42 (by decide +kernel) rfl) (tin 1 43 (by decide +kernel) rfl) (tin 1 2 (by decide +kernel) rfl) (by decide +kernel : decode cX11_init 39 = .ok (.invokespecial 11, 3)) rfl
set_option maxRecDepth 100000 in
theorem s_0_42 (hC : SndC g HB l MM call) : Snd g HB l call cX11_init 1 yX11_init.cls yX11_init.name 42 (s_put 9 2 3 45) := h_putF (k := 2) (C := RX11) (T := TX11) (N := 17) (ci := 9) rfl (by decide) rfl rfl rfl (Or.inl ⟨_, rfl⟩) (tin 2 97 (by decide +kernel) rfl) (by decide +kernel : decode cX11_init 42 = .ok (.putfield 21, 3)) rfl
set_option maxRecDepth 100000 in
theorem s_0_45 (hC : SndC g HB l MM call) : Snd g HB l call cX11_init 1 yX11_init.cls yX11_init.name 45 (lf (q_load isR 0 46)) := lf_ok (p_aload_n (by decide +kernel : decode cX11_init 45 = .ok (.aload_n 0, 1)) rfl rfl)
set_option maxRecDepth 100000 in
theorem s_0_46 (hC : SndC g HB l MM call) (hex : HB.size = g.1) : Snd g HB l call cX11_init 1 yX11_init.cls yX11_init.name 46 (s_new 1 7 [.inr (.inr .null), .inr (.inr .null), .inr (.inr .null), .inr (.inr .null), .inr (.inr .null), .inl 0, .inl 0] 49) := h_new hex (C := RX0) (T := TX0) (N := 7) (ci := 1) rfl (by decide +kernel) (by decide +kernel) (tin 1 54 (by decide +kernel) rfl) (tin 1 55 (by decide +kernel) rfl) (tin 1 3 (by decide +kernel) rfl) (by decide +kernel : decode cX11_init 46 = .ok (.new 24, 3)) rfl
set_option maxRecDepth 100000 in
theorem s_0_49 (hC : SndC g HB l MM call) : Snd g HB l call cX11_init 1 yX11_init.cls yX11_init.name 49 (lf (q_dup 50)) := lf_ok (p_dup (by decide +kernel : decode cX11_init 49 = .ok (.dup, 1)) rfl)
set_option maxRecDepth 100000 in
theorem s_0_50 (hC : SndC g HB l MM call) : Snd g HB l call cX11_init 1 yX11_init.cls yX11_init.name 50 (s_cI 2 0 20 53) := c_IN (host := "MailArchive") hC (M := MM) (id := 2) (d := D_2) rfl mok_2 rfl rfl rfl (tinN 1 56 (by decide +kernel) rfl) (tin 1 57 (by decide +kernel) rfl) (tin 1 3 (by decide +kernel) rfl) (by decide +kernel : decode cX11_init 50 = .ok (.invokespecial 26, 3)) rfl
set_option maxRecDepth 100000 in
theorem s_0_53 (hC : SndC g HB l MM call) : Snd g HB l call cX11_init 1 yX11_init.cls yX11_init.name 53 (s_put 9 3 3 56) := h_putF (k := 3) (C := RX11) (T := TX11) (N := 17) (ci := 9) rfl (by decide) rfl rfl rfl (Or.inl ⟨_, rfl⟩) (tin 2 98 (by decide +kernel) rfl) (by decide +kernel : decode cX11_init 53 = .ok (.putfield 27, 3)) rfl
set_option maxRecDepth 100000 in
theorem s_0_56 (hC : SndC g HB l MM call) : Snd g HB l call cX11_init 1 yX11_init.cls yX11_init.name 56 (lf (q_load isR 0 57)) := lf_ok (p_aload_n (by decide +kernel : decode cX11_init 56 = .ok (.aload_n 0, 1)) rfl rfl)
set_option maxRecDepth 100000 in
theorem s_0_57 (hC : SndC g HB l MM call) (hex : HB.size = g.1) : Snd g HB l call cX11_init 1 yX11_init.cls yX11_init.name 57 (s_new 1 7 [.inr (.inr .null), .inr (.inr .null), .inr (.inr .null), .inr (.inr .null), .inr (.inr .null), .inl 0, .inl 0] 60) := h_new hex (C := RX0) (T := TX0) (N := 7) (ci := 1) rfl (by decide +kernel) (by decide +kernel) (tin 1 54 (by decide +kernel) rfl) (tin 1 55 (by decide +kernel) rfl) (tin 1 3 (by decide +kernel) rfl) (by decide +kernel : decode cX11_init 57 = .ok (.new 24, 3)) rfl
set_option maxRecDepth 100000 in
theorem s_0_60 (hC : SndC g HB l MM call) : Snd g HB l call cX11_init 1 yX11_init.cls yX11_init.name 60 (lf (q_dup 61)) := lf_ok (p_dup (by decide +kernel : decode cX11_init 60 = .ok (.dup, 1)) rfl)
set_option maxRecDepth 100000 in
theorem s_0_61 (hC : SndC g HB l MM call) : Snd g HB l call cX11_init 1 yX11_init.cls yX11_init.name 61 (s_cI 2 0 20 64) := c_IN (host := "MailArchive") hC (M := MM) (id := 2) (d := D_2) rfl mok_2 rfl rfl rfl (tinN 1 56 (by decide +kernel) rfl) (tin 1 57 (by decide +kernel) rfl) (tin 1 3 (by decide +kernel) rfl) (by decide +kernel : decode cX11_init 61 = .ok (.invokespecial 26, 3)) rfl
set_option maxRecDepth 100000 in
theorem s_0_64 (hC : SndC g HB l MM call) : Snd g HB l call cX11_init 1 yX11_init.cls yX11_init.name 64 (s_put 9 4 3 67) := h_putF (k := 4) (C := RX11) (T := TX11) (N := 17) (ci := 9) rfl (by decide) rfl rfl rfl (Or.inl ⟨_, rfl⟩) (tin 2 99 (by decide +kernel) rfl) (by decide +kernel : decode cX11_init 64 = .ok (.putfield 31, 3)) rfl
set_option maxRecDepth 100000 in
theorem s_0_67 (hC : SndC g HB l MM call) : Snd g HB l call cX11_init 1 yX11_init.cls yX11_init.name 67 (lf (q_load isR 0 68)) := lf_ok (p_aload_n (by decide +kernel : decode cX11_init 67 = .ok (.aload_n 0, 1)) rfl rfl)
set_option maxRecDepth 100000 in
theorem s_0_68 (hC : SndC g HB l MM call) (hex : HB.size = g.1) : Snd g HB l call cX11_init 1 yX11_init.cls yX11_init.name 68 (s_new 1 7 [.inr (.inr .null), .inr (.inr .null), .inr (.inr .null), .inr (.inr .null), .inr (.inr .null), .inl 0, .inl 0] 71) := h_new hex (C := RX0) (T := TX0) (N := 7) (ci := 1) rfl (by decide +kernel) (by decide +kernel) (tin 1 54 (by decide +kernel) rfl) (tin 1 55 (by decide +kernel) rfl) (tin 1 3 (by decide +kernel) rfl) (by decide +kernel : decode cX11_init 68 = .ok (.new 24, 3)) rfl
set_option maxRecDepth 100000 in
theorem s_0_71 (hC : SndC g HB l MM call) : Snd g HB l call cX11_init 1 yX11_init.cls yX11_init.name 71 (lf (q_dup 72)) := lf_ok (p_dup (by decide +kernel : decode cX11_init 71 = .ok (.dup, 1)) rfl)
set_option maxRecDepth 100000 in
theorem s_0_72 (hC : SndC g HB l MM call) : Snd g HB l call cX11_init 1 yX11_init.cls yX11_init.name 72 (s_cI 2 0 20 75) := c_IN (host := "MailArchive") hC (M := MM) (id := 2) (d := D_2) rfl mok_2 rfl rfl rfl (tinN 1 56 (by decide +kernel) rfl) (tin 1 57 (by decide +kernel) rfl) (tin 1 3 (by decide +kernel) rfl) (by decide +kernel : decode cX11_init 72 = .ok (.invokespecial 26, 3)) rfl
set_option maxRecDepth 100000 in
theorem s_0_75 (hC : SndC g HB l MM call) : Snd g HB l call cX11_init 1 yX11_init.cls yX11_init.name 75 (s_put 9 5 3 78) := h_putF (k := 5) (C := RX11) (T := TX11) (N := 17) (ci := 9) rfl (by decide) rfl rfl rfl (Or.inl ⟨_, rfl⟩) (tin 2 100 (by decide +kernel) rfl) (by decide +kernel : decode cX11_init 75 = .ok (.putfield 34, 3)) rfl
set_option maxRecDepth 100000 in
theorem s_0_78 (hC : SndC g HB l MM call) : Snd g HB l call cX11_init 1 yX11_init.cls yX11_init.name 78 (lf (q_load isR 0 79)) := lf_ok (p_aload_n (by decide +kernel : decode cX11_init 78 = .ok (.aload_n 0, 1)) rfl rfl)
set_option maxRecDepth 100000 in
theorem s_0_79 (hC : SndC g HB l MM call) (hex : HB.size = g.1) : Snd g HB l call cX11_init 1 yX11_init.cls yX11_init.name 79 (s_new 0 3 [.inl 0, .inr (.inr .null), .inl 0] 82) := h_new hex (C := RJx4a65c) (T := TJx4a65c) (N := 3) (ci := 0) rfl (by decide +kernel) (by decide +kernel) (tin 1 83 (by decide +kernel) rfl) (tin 1 84 (by decide +kernel) rfl) (tin 1 6 (by decide +kernel) rfl) (by decide +kernel : decode cX11_init 79 = .ok (.new 37, 3)) rfl
set_option maxRecDepth 100000 in
theorem s_0_82 (hC : SndC g HB l MM call) : Snd g HB l call cX11_init 1 yX11_init.cls yX11_init.name 82 (lf (q_dup 83)) := lf_ok (p_dup (by decide +kernel : decode cX11_init 82 = .ok (.dup, 1)) rfl)
set_option maxRecDepth 100000 in
theorem s_0_83 (hC : SndC g HB l MM call) : Snd g HB l call cX11_init 1 yX11_init.cls yX11_init.name 83 (s_cI 3 0 20 86) := c_I hC (M := MM) (id := 3) (d := D_3) rfl mok_3 rfl rfl rfl (tin 1 85 (by decide +kernel) rfl) (tin 1 86 (by decide +kernel) rfl) (tin 1 6 (by decide +kernel) rfl) (by decide +kernel : decode cX11_init 83 = .ok (.invokespecial 39, 3)) rfl
set_option maxRecDepth 100000 in
theorem s_0_86 (hC : SndC g HB l MM call) : Snd g HB l call cX11_init 1 yX11_init.cls yX11_init.name 86 (s_put 9 6 3 89) := h_putF (k := 6) (C := RX11) (T := TX11) (N := 17) (ci := 9) rfl (by decide) rfl rfl rfl (Or.inl ⟨_, rfl⟩) (tin 2 101 (by decide +kernel) rfl) (by decide +kernel : decode cX11_init 86 = .ok (.putfield 40, 3)) rfl
set_option maxRecDepth 100000 in
theorem s_0_89 (hC : SndC g HB l MM call) : Snd g HB l call cX11_init 1 yX11_init.cls yX11_init.name 89 (lf (q_load isR 0 90)) := lf_ok (p_aload_n (by decide +kernel : decode cX11_init 89 = .ok (.aload_n 0, 1)) rfl rfl)
set_option maxRecDepth 100000 in
theorem s_0_90 (hC : SndC g HB l MM call) (hex : HB.size = g.1) : Snd g HB l call cX11_init 1 yX11_init.cls yX11_init.name 90 (s_new 8 7 [.inr (.inr .null), .inr (.inr .null), .inr (.inr .null), .inr (.inr .null), .inr (.inr .null), .inr (.inr .null), .inl 0] 93) := h_new hex (C := RX10) (T := TX10) (N := 7) (ci := 8) rfl (by decide +kernel) (by decide +kernel) (tin 1 109 (by decide +kernel) rfl) (tin 1 110 (by decide +kernel) rfl) (tin 1 7 (by decide +kernel) rfl) (by decide +kernel : decode cX11_init 90 = .ok (.new 44, 3)) rfl
set_option maxRecDepth 100000 in
theorem s_0_93 (hC : SndC g HB l MM call) : Snd g HB l call cX11_init 1 yX11_init.cls yX11_init.name 93 (lf (q_dup 94)) := lf_ok (p_dup (by decide +kernel : decode cX11_init 93 = .ok (.dup, 1)) rfl)
set_option maxRecDepth 100000 in
theorem s_0_94 (hC : SndC g HB l MM call) : Snd g HB l call cX11_init 1 yX11_init.cls yX11_init.name 94 (lf (q_load isR 0 95)) := lf_ok (p_aload_n (by decide +kernel : decode cX11_init 94 = .ok (.aload_n 0, 1)) rfl rfl)
set_option maxRecDepth 100000 in
theorem s_0_95 (hC : SndC g HB l MM call) : Snd g HB l call cX11_init 1 yX11_init.cls yX11_init.name 95 (s_get 9 6 98) := h_get (k := 6) (C := RX11) (T := TX11) (N := 17) (ci := 9) rfl (by decide) (tin 2 101 (by decide +kernel) rfl)  (by decide +kernel : decode cX11_init 95 = .ok (.getfield 40, 3)) rfl
set_option maxRecDepth 100000 in
theorem s_0_98 (hC : SndC g HB l MM call) : Snd g HB l call cX11_init 1 yX11_init.cls yX11_init.name 98 (lf (q_load isR 0 99)) := lf_ok (p_aload_n (by decide +kernel : decode cX11_init 98 = .ok (.aload_n 0, 1)) rfl rfl)
set_option maxRecDepth 100000 in
theorem s_0_99 (hC : SndC g HB l MM call) : Snd g HB l call cX11_init 1 yX11_init.cls yX11_init.name 99 (s_get 9 4 102) := h_get (k := 4) (C := RX11) (T := TX11) (N := 17) (ci := 9) rfl (by decide) (tin 2 99 (by decide +kernel) rfl)  (by decide +kernel : decode cX11_init 99 = .ok (.getfield 31, 3)) rfl
set_option maxRecDepth 100000 in
theorem s_0_102 (hC : SndC g HB l MM call) : Snd g HB l call cX11_init 1 yX11_init.cls yX11_init.name 102 (s_cI 6 2 22 105) := c_I hC (M := MM) (id := 6) (d := D_6) rfl mok_6 rfl rfl rfl (tin 1 111 (by decide +kernel) rfl) (tin 1 112 (by decide +kernel) rfl) (tin 1 7 (by decide +kernel) rfl) (by decide +kernel : decode cX11_init 102 = .ok (.invokespecial 46, 3)) rfl
set_option maxRecDepth 100000 in
theorem s_0_105 (hC : SndC g HB l MM call) : Snd g HB l call cX11_init 1 yX11_init.cls yX11_init.name 105 (s_put 9 7 3 108) := h_putF (k := 7) (C := RX11) (T := TX11) (N := 17) (ci := 9) rfl (by decide) rfl rfl rfl (Or.inl ⟨_, rfl⟩) (tin 2 102 (by decide +kernel) rfl) (by decide +kernel : decode cX11_init 105 = .ok (.putfield 49, 3)) rfl
set_option maxRecDepth 100000 in
theorem s_0_108 (hC : SndC g HB l MM call) : Snd g HB l call cX11_init 1 yX11_init.cls yX11_init.name 108 (lf (q_load isR 0 109)) := lf_ok (p_aload_n (by decide +kernel : decode cX11_init 108 = .ok (.aload_n 0, 1)) rfl rfl)
set_option maxRecDepth 100000 in
theorem s_0_109 (hC : SndC g HB l MM call) (hex : HB.size = g.1) : Snd g HB l call cX11_init 1 yX11_init.cls yX11_init.name 109 (s_new 6 15 [.inr (.inr .null), .inr (.inr .null), .inr (.inr .null), .inr (.inr .null), .inr (.inr .null), .inr (.inr .null), .inr (.inr .null), .inr (.inr .null), .inr (.inr .null), .inr (.inr .null), .inr (.inr .null), .inr (.inr .null), .inr (.inr .null), .inl 0, .inl 0] 112) := h_new hex (C := RX7) (T := TX7) (N := 15) (ci := 6) rfl (by decide +kernel) (by decide +kernel) (tin 1 137 (by decide +kernel) rfl) (tin 1 138 (by decide +kernel) rfl) (tin 1 8 (by decide +kernel) rfl) (by decide +kernel : decode cX11_init 109 = .ok (.new 53, 3)) rfl
set_option maxRecDepth 100000 in
theorem s_0_112 (hC : SndC g HB l MM call) : Snd g HB l call cX11_init 1 yX11_init.cls yX11_init.name 112 (lf (q_dup 113)) := lf_ok (p_dup (by decide +kernel : decode cX11_init 112 = .ok (.dup, 1)) rfl)
set_option maxRecDepth 100000 in
theorem s_0_113 (hC : SndC g HB l MM call) : Snd g HB l call cX11_init 1 yX11_init.cls yX11_init.name 113 (lf (q_load isR 0 114)) := lf_ok (p_aload_n (by decide +kernel : decode cX11_init 113 = .ok (.aload_n 0, 1)) rfl rfl)
set_option maxRecDepth 100000 in
theorem s_0_114 (hC : SndC g HB l MM call) : Snd g HB l call cX11_init 1 yX11_init.cls yX11_init.name 114 (s_get 9 1 117) := h_get (k := 1) (C := RX11) (T := TX11) (N := 17) (ci := 9) rfl (by decide) (tin 2 96 (by decide +kernel) rfl)  (by decide +kernel : decode cX11_init 114 = .ok (.getfield 18, 3)) rfl
set_option maxRecDepth 100000 in
theorem s_0_117 (hC : SndC g HB l MM call) : Snd g HB l call cX11_init 1 yX11_init.cls yX11_init.name 117 (lf (q_load isR 0 118)) := lf_ok (p_aload_n (by decide +kernel : decode cX11_init 117 = .ok (.aload_n 0, 1)) rfl rfl)
set_option maxRecDepth 100000 in
theorem s_0_118 (hC : SndC g HB l MM call) : Snd g HB l call cX11_init 1 yX11_init.cls yX11_init.name 118 (s_get 9 3 121) := h_get (k := 3) (C := RX11) (T := TX11) (N := 17) (ci := 9) rfl (by decide) (tin 2 98 (by decide +kernel) rfl)  (by decide +kernel : decode cX11_init 118 = .ok (.getfield 27, 3)) rfl
set_option maxRecDepth 100000 in
theorem s_0_121 (hC : SndC g HB l MM call) : Snd g HB l call cX11_init 1 yX11_init.cls yX11_init.name 121 (lf (q_load isR 0 122)) := lf_ok (p_aload_n (by decide +kernel : decode cX11_init 121 = .ok (.aload_n 0, 1)) rfl rfl)
set_option maxRecDepth 100000 in
theorem s_0_122 (hC : SndC g HB l MM call) : Snd g HB l call cX11_init 1 yX11_init.cls yX11_init.name 122 (s_get 9 4 125) := h_get (k := 4) (C := RX11) (T := TX11) (N := 17) (ci := 9) rfl (by decide) (tin 2 99 (by decide +kernel) rfl)  (by decide +kernel : decode cX11_init 122 = .ok (.getfield 31, 3)) rfl
set_option maxRecDepth 100000 in
theorem s_0_125 (hC : SndC g HB l MM call) : Snd g HB l call cX11_init 1 yX11_init.cls yX11_init.name 125 (s_cI 7 3 23 128) := c_I hC (M := MM) (id := 7) (d := D_7) rfl mok_7 rfl rfl rfl (tin 1 139 (by decide +kernel) rfl) (tin 1 140 (by decide +kernel) rfl) (tin 1 8 (by decide +kernel) rfl) (by decide +kernel : decode cX11_init 125 = .ok (.invokespecial 55, 3)) rfl
set_option maxRecDepth 100000 in
theorem s_0_128 (hC : SndC g HB l MM call) : Snd g HB l call cX11_init 1 yX11_init.cls yX11_init.name 128 (s_put 9 8 3 131) := h_putF (k := 8) (C := RX11) (T := TX11) (N := 17) (ci := 9) rfl (by decide) rfl rfl rfl (Or.inl ⟨_, rfl⟩) (tin 2 103 (by decide +kernel) rfl) (by decide +kernel : decode cX11_init 128 = .ok (.putfield 58, 3)) rfl
set_option maxRecDepth 100000 in
theorem s_0_131 (hC : SndC g HB l MM call) : Snd g HB l call cX11_init 1 yX11_init.cls yX11_init.name 131 (lf (q_load isR 0 132)) := lf_ok (p_aload_n (by decide +kernel : decode cX11_init 131 = .ok (.aload_n 0, 1)) rfl rfl)
set_option maxRecDepth 100000 in
theorem s_0_132 (hC : SndC g HB l MM call) (hex : HB.size = g.1) : Snd g HB l call cX11_init 1 yX11_init.cls yX11_init.name 132 (s_new 7 17 [.inr (.inr .null), .inr (.inr .null), .inr (.inr .null), .inr (.inr .null), .inr (.inr .null), .inr (.inr .null), .inr (.inr .null), .inr (.inr .null), .inr (.inr .null), .inr (.inr .null), .inr (.inr .null), .inr (.inr .null), .inl 0, .inl 0, .inl 0, .inr (.inl 0), .inl 0] 135) := h_new hex (C := RX8) (T := TX8) (N := 17) (ci := 7) rfl (by decide +kernel) (by decide +kernel) (tin 1 215 (by decide +kernel) rfl) (tin 1 216 (by decide +kernel) rfl) (tin 1 10 (by decide +kernel) rfl) (by decide +kernel : decode cX11_init 132 = .ok (.new 62, 3)) rfl
set_option maxRecDepth 100000 in
theorem s_0_135 (hC : SndC g HB l MM call) : Snd g HB l call cX11_init 1 yX11_init.cls yX11_init.name 135 (lf (q_dup 136)) := lf_ok (p_dup (by decide +kernel : decode cX11_init 135 = .ok (.dup, 1)) rfl)
set_option maxRecDepth 100000 in
theorem s_0_136 (hC : SndC g HB l MM call) : Snd g HB l call cX11_init 1 yX11_init.cls yX11_init.name 136 (lf (q_load isR 0 137)) := lf_ok (p_aload_n (by decide +kernel : decode cX11_init 136 = .ok (.aload_n 0, 1)) rfl rfl)
set_option maxRecDepth 100000 in
theorem s_0_137 (hC : SndC g HB l MM call) : Snd g HB l call cX11_init 1 yX11_init.cls yX11_init.name 137 (s_get 9 2 140) := h_get (k := 2) (C := RX11) (T := TX11) (N := 17) (ci := 9) rfl (by decide) (tin 2 97 (by decide +kernel) rfl)  (by decide +kernel : decode cX11_init 137 = .ok (.getfield 21, 3)) rfl
set_option maxRecDepth 100000 in
theorem s_0_140 (hC : SndC g HB l MM call) : Snd g HB l call cX11_init 1 yX11_init.cls yX11_init.name 140 (lf (q_load isR 0 141)) := lf_ok (p_aload_n (by decide +kernel : decode cX11_init 140 = .ok (.aload_n 0, 1)) rfl rfl)
set_option maxRecDepth 100000 in
theorem s_0_141 (hC : SndC g HB l MM call) : Snd g HB l call cX11_init 1 yX11_init.cls yX11_init.name 141 (s_get 9 6 144) := h_get (k := 6) (C := RX11) (T := TX11) (N := 17) (ci := 9) rfl (by decide) (tin 2 101 (by decide +kernel) rfl)  (by decide +kernel : decode cX11_init 141 = .ok (.getfield 40, 3)) rfl
set_option maxRecDepth 100000 in
theorem s_0_144 (hC : SndC g HB l MM call) : Snd g HB l call cX11_init 1 yX11_init.cls yX11_init.name 144 (lf (q_load isR 0 145)) := lf_ok (p_aload_n (by decide +kernel : decode cX11_init 144 = .ok (.aload_n 0, 1)) rfl rfl)
set_option maxRecDepth 100000 in
theorem s_0_145 (hC : SndC g HB l MM call) : Snd g HB l call cX11_init 1 yX11_init.cls yX11_init.name 145 (s_get 9 7 148) := h_get (k := 7) (C := RX11) (T := TX11) (N := 17) (ci := 9) rfl (by decide) (tin 2 102 (by decide +kernel) rfl)  (by decide +kernel : decode cX11_init 145 = .ok (.getfield 49, 3)) rfl
set_option maxRecDepth 100000 in
theorem s_0_148 (hC : SndC g HB l MM call) : Snd g HB l call cX11_init 1 yX11_init.cls yX11_init.name 148 (lf (q_load isR 0 149)) := lf_ok (p_aload_n (by decide +kernel : decode cX11_init 148 = .ok (.aload_n 0, 1)) rfl rfl)
set_option maxRecDepth 100000 in
theorem s_0_149 (hC : SndC g HB l MM call) : Snd g HB l call cX11_init 1 yX11_init.cls yX11_init.name 149 (s_get 9 3 152) := h_get (k := 3) (C := RX11) (T := TX11) (N := 17) (ci := 9) rfl (by decide) (tin 2 98 (by decide +kernel) rfl)  (by decide +kernel : decode cX11_init 149 = .ok (.getfield 27, 3)) rfl
set_option maxRecDepth 100000 in
theorem s_0_152 (hC : SndC g HB l MM call) : Snd g HB l call cX11_init 1 yX11_init.cls yX11_init.name 152 (lf (q_load isR 0 153)) := lf_ok (p_aload_n (by decide +kernel : decode cX11_init 152 = .ok (.aload_n 0, 1)) rfl rfl)
set_option maxRecDepth 100000 in
theorem s_0_153 (hC : SndC g HB l MM call) : Snd g HB l call cX11_init 1 yX11_init.cls yX11_init.name 153 (s_get 9 4 156) := h_get (k := 4) (C := RX11) (T := TX11) (N := 17) (ci := 9) rfl (by decide) (tin 2 99 (by decide +kernel) rfl)  (by decide +kernel : decode cX11_init 153 = .ok (.getfield 31, 3)) rfl
set_option maxRecDepth 100000 in
theorem s_0_156 (hC : SndC g HB l MM call) : Snd g HB l call cX11_init 1 yX11_init.cls yX11_init.name 156 (lf (q_load isR 0 157)) := lf_ok (p_aload_n (by decide +kernel : decode cX11_init 156 = .ok (.aload_n 0, 1)) rfl rfl)
set_option maxRecDepth 100000 in
theorem s_0_157 (hC : SndC g HB l MM call) : Snd g HB l call cX11_init 1 yX11_init.cls yX11_init.name 157 (s_get 9 5 160) := h_get (k := 5) (C := RX11) (T := TX11) (N := 17) (ci := 9) rfl (by decide) (tin 2 100 (by decide +kernel) rfl)  (by decide +kernel : decode cX11_init 157 = .ok (.getfield 34, 3)) rfl
set_option maxRecDepth 100000 in
theorem s_0_160 (hC : SndC g HB l MM call) : Snd g HB l call cX11_init 1 yX11_init.cls yX11_init.name 160 (s_cI 9 6 26 163) := c_I hC (M := MM) (id := 9) (d := D_9) rfl mok_9 rfl rfl rfl (tin 1 217 (by decide +kernel) rfl) (tin 1 218 (by decide +kernel) rfl) (tin 1 10 (by decide +kernel) rfl) (by decide +kernel : decode cX11_init 160 = .ok (.invokespecial 64, 3)) rfl
set_option maxRecDepth 100000 in
theorem s_0_163 (hC : SndC g HB l MM call) : Snd g HB l call cX11_init 1 yX11_init.cls yX11_init.name 163 (s_put 9 9 3 166) := h_putF (k := 9) (C := RX11) (T := TX11) (N := 17) (ci := 9) rfl (by decide) rfl rfl rfl (Or.inl ⟨_, rfl⟩) (tin 2 104 (by decide +kernel) rfl) (by decide +kernel : decode cX11_init 163 = .ok (.putfield 67, 3)) rfl
set_option maxRecDepth 100000 in
theorem s_0_166 (hC : SndC g HB l MM call) : Snd g HB l call cX11_init 1 yX11_init.cls yX11_init.name 166 (lf (q_load isR 0 167)) := lf_ok (p_aload_n (by decide +kernel : decode cX11_init 166 = .ok (.aload_n 0, 1)) rfl rfl)
set_option maxRecDepth 100000 in
theorem s_0_167 (hC : SndC g HB l MM call) : Snd g HB l call cX11_init 1 yX11_init.cls yX11_init.name 167 (lf (q_push (.inl 60) 169)) := lf_ok (p_bipush (by decide +kernel : decode cX11_init 167 = .ok (.bipush 60, 2)) (by decide +kernel) rfl)
set_option maxRecDepth 100000 in
theorem s_0_169 (hC : SndC g HB l MM call) (hex : HB.size = g.1) : Snd g HB l call cX11_init 1 yX11_init.cls yX11_init.name 169 (s_newa 0 171) := h_newa hex (t := 0) (by decide) rfl (tin 1 82 (by decide +kernel) rfl) (by decide +kernel : decode cX11_init 169 = .ok (.newarray .int, 2)) rfl
set_option maxRecDepth 100000 in
theorem s_0_171 (hC : SndC g HB l MM call) : Snd g HB l call cX11_init 1 yX11_init.cls yX11_init.name 171 (s_put 9 10 3 174) := h_putF (k := 10) (C := RX11) (T := TX11) (N := 17) (ci := 9) rfl (by decide) rfl rfl rfl (Or.inr ⟨_, rfl⟩) (tin 2 105 (by decide +kernel) rfl) (by decide +kernel : decode cX11_init 171 = .ok (.putfield 71, 3)) rfl
set_option maxRecDepth 100000 in
theorem s_0_174 (hC : SndC g HB l MM call) : Snd g HB l call cX11_init 1 yX11_init.cls yX11_init.name 174 (lf (q_load isR 0 175)) := lf_ok (p_aload_n (by decide +kernel : decode cX11_init 174 = .ok (.aload_n 0, 1)) rfl rfl)
set_option maxRecDepth 100000 in
theorem s_0_175 (hC : SndC g HB l MM call) : Snd g HB l call cX11_init 1 yX11_init.cls yX11_init.name 175 (lf (q_push (.inl 60) 177)) := lf_ok (p_bipush (by decide +kernel : decode cX11_init 175 = .ok (.bipush 60, 2)) (by decide +kernel) rfl)
set_option maxRecDepth 100000 in
theorem s_0_177 (hC : SndC g HB l MM call) (hex : HB.size = g.1) : Snd g HB l call cX11_init 1 yX11_init.cls yX11_init.name 177 (s_newa 0 179) := h_newa hex (t := 0) (by decide) rfl (tin 1 82 (by decide +kernel) rfl) (by decide +kernel : decode cX11_init 177 = .ok (.newarray .int, 2)) rfl
set_option maxRecDepth 100000 in
theorem s_0_179 (hC : SndC g HB l MM call) : Snd g HB l call cX11_init 1 yX11_init.cls yX11_init.name 179 (s_put 9 11 3 182) := h_putF (k := 11) (C := RX11) (T := TX11) (N := 17) (ci := 9) rfl (by decide) rfl rfl rfl (Or.inr ⟨_, rfl⟩) (tin 2 106 (by decide +kernel) rfl) (by decide +kernel : decode cX11_init 179 = .ok (.putfield 75, 3)) rfl
set_option maxRecDepth 100000 in
theorem s_0_182 (hC : SndC g HB l MM call) : Snd g HB l call cX11_init 1 yX11_init.cls yX11_init.name 182 (lf (q_load isR 0 183)) := lf_ok (p_aload_n (by decide +kernel : decode cX11_init 182 = .ok (.aload_n 0, 1)) rfl rfl)
set_option maxRecDepth 100000 in
theorem s_0_183 (hC : SndC g HB l MM call) : Snd g HB l call cX11_init 1 yX11_init.cls yX11_init.name 183 (lf (q_push (.inl 60) 185)) := lf_ok (p_bipush (by decide +kernel : decode cX11_init 183 = .ok (.bipush 60, 2)) (by decide +kernel) rfl)
set_option maxRecDepth 100000 in
theorem s_0_185 (hC : SndC g HB l MM call) (hex : HB.size = g.1) : Snd g HB l call cX11_init 1 yX11_init.cls yX11_init.name 185 (s_newa 0 187) := h_newa hex (t := 0) (by decide) rfl (tin 1 82 (by decide +kernel) rfl) (by decide +kernel : decode cX11_init 185 = .ok (.newarray .int, 2)) rfl
set_option maxRecDepth 100000 in
theorem s_0_187 (hC : SndC g HB l MM call) : Snd g HB l call cX11_init 1 yX11_init.cls yX11_init.name 187 (s_put 9 12 3 190) := h_putF (k := 12) (C := RX11) (T := TX11) (N := 17) (ci := 9) rfl (by decide) rfl rfl rfl (Or.inr ⟨_, rfl⟩) (tin 2 107 (by decide +kernel) rfl) (by decide +kernel : decode cX11_init 187 = .ok (.putfield 78, 3)) rfl
set_option maxRecDepth 100000 in
theorem s_0_190 (hC : SndC g HB l MM call) : Snd g HB l call cX11_init 1 yX11_init.cls yX11_init.name 190 (lf (q_load isR 0 191)) := lf_ok (p_aload_n (by decide +kernel : decode cX11_init 190 = .ok (.aload_n 0, 1)) rfl rfl)
set_option maxRecDepth 100000 in
theorem s_0_191 (hC : SndC g HB l MM call) : Snd g HB l call cX11_init 1 yX11_init.cls yX11_init.name 191 (lf (q_push (.inl 0) 192)) := lf_ok (p_iconst (by decide +kernel : decode cX11_init 191 = .ok (.iconst 0, 1)) (by decide +kernel) rfl)
set_option maxRecDepth 100000 in
theorem s_0_192 (hC : SndC g HB l MM call) : Snd g HB l call cX11_init 1 yX11_init.cls yX11_init.name 192 (lf (q_push (.inl 0) 193)) := lf_ok (p_iconst (by decide +kernel : decode cX11_init 192 = .ok (.iconst 0, 1)) (by decide +kernel) rfl)
set_option maxRecDepth 100000 in
theorem s_0_193 (hC : SndC g HB l MM call) : Snd g HB l call cX11_init 1 yX11_init.cls yX11_init.name 193 (lf (q_push (.inl 0) 194)) := lf_ok (p_iconst (by decide +kernel : decode cX11_init 193 = .ok (.iconst 0, 1)) (by decide +kernel) rfl)
set_option maxRecDepth 100000 in
theorem s_0_194 (hC : SndC g HB l MM call) : Snd g HB l call cX11_init 1 yX11_init.cls yX11_init.name 194 (lf (q_push (.inl 0) 195)) := lf_ok (p_iconst (by decide +kernel : decode cX11_init 194 = .ok (.iconst 0, 1)) (by decide +kernel) rfl)
set_option maxRecDepth 100000 in
theorem s_0_195 (hC : SndC g HB l MM call) : Snd g HB l call cX11_init 1 yX11_init.cls yX11_init.name 195 (lf (q_push (.inl 0) 196)) := lf_ok (p_iconst (by decide +kernel : decode cX11_init 195 = .ok (.iconst 0, 1)) (by decide +kernel) rfl)
set_option maxRecDepth 100000 in
theorem s_0_196 (hC : SndC g HB l MM call) : Snd g HB l call cX11_init 1 yX11_init.cls yX11_init.name 196 (s_cV 9 11 5 25 199) := c_V (C := RX11) (T := TX11) (N := 17) (ci := 9) rfl hC (M := MM) (id := 11) (d := D_11) rfl mok_11 rfl rfl (tin 2 79 (by decide +kernel) rfl) (tin 2 81 (by decide +kernel) rfl) (tinP (y := mdY D_11) (n := 17) 0 (by decide +kernel)) (tin 1 1 (by decide +kernel) rfl) (by decide +kernel : decode cX11_init 196 = .ok (.invokevirtual 81, 3)) rfl
set_option maxRecDepth 100000 in
theorem ok_0 (hex : HB.size = g.1) (hC : SndC g HB l MM call) : ∀ x ∈ P_0, Snd g HB l call cX11_init 1 yX11_init.cls yX11_init.name x.1 x.2 := fa0 (s_0_0 hC) (fa0 (s_0_1 hC) (fa0 (s_0_4 hC) (fa0 (s_0_5 hC hex) (fa0 (s_0_8 hC) (fa0 (s_0_9 hC) (fa0 (s_0_11 hC) (fa0 (s_0_14 hC) (fa0 (s_0_17 hC) (fa0 (s_0_18 hC hex) (fa0 (s_0_21 hC) (fa0 (s_0_22 hC) (fa0 (s_0_25 hC) (fa0 (s_0_28 hC) (fa0 (s_0_31 hC) (fa0 (s_0_32 hC hex) (fa0 (s_0_35 hC) (fa0 (s_0_36 hC) (fa0 (s_0_39 hC) (fa0 (s_0_42 hC) (fa0 (s_0_45 hC) (fa0 (s_0_46 hC hex) (fa0 (s_0_49 hC) (fa0 (s_0_50 hC) (fa0 (s_0_53 hC) (fa0 (s_0_56 hC) (fa0 (s_0_57 hC hex) (fa0 (s_0_60 hC) (fa0 (s_0_61 hC) (fa0 (s_0_64 hC) (fa0 (s_0_67 hC) (fa0 (s_0_68 hC hex) (fa0 (s_0_71 hC) (fa0 (s_0_72 hC) (fa0 (s_0_75 hC) (fa0 (s_0_78 hC) (fa0 (s_0_79 hC hex) (fa0 (s_0_82 hC) (fa0 (s_0_83 hC) (fa0 (s_0_86 hC) (fa0 (s_0_89 hC) (fa0 (s_0_90 hC hex) (fa0 (s_0_93 hC) (fa0 (s_0_94 hC) (fa0 (s_0_95 hC) (fa0 (s_0_98 hC) (fa0 (s_0_99 hC) (fa0 (s_0_102 hC) (fa0 (s_0_105 hC) (fa0 (s_0_108 hC) (fa0 (s_0_109 hC hex) (fa0 (s_0_112 hC) (fa0 (s_0_113 hC) (fa0 (s_0_114 hC) (fa0 (s_0_117 hC) (fa0 (s_0_118 hC) (fa0 (s_0_121 hC) (fa0 (s_0_122 hC) (fa0 (s_0_125 hC) (fa0 (s_0_128 hC) (fa0 (s_0_131 hC) (fa0 (s_0_132 hC hex) (fa0 (s_0_135 hC) (fa0 (s_0_136 hC) (fa0 (s_0_137 hC) (fa0 (s_0_140 hC) (fa0 (s_0_141 hC) (fa0 (s_0_144 hC) (fa0 (s_0_145 hC) (fa0 (s_0_148 hC) (fa0 (s_0_149 hC) (fa0 (s_0_152 hC) (fa0 (s_0_153 hC) (fa0 (s_0_156 hC) (fa0 (s_0_157 hC) (fa0 (s_0_160 hC) (fa0 (s_0_163 hC) (fa0 (s_0_166 hC) (fa0 (s_0_167 hC) (fa0 (s_0_169 hC hex) (fa0 (s_0_171 hC) (fa0 (s_0_174 hC) (fa0 (s_0_175 hC) (fa0 (s_0_177 hC hex) (fa0 (s_0_179 hC) (fa0 (s_0_182 hC) (fa0 (s_0_183 hC) (fa0 (s_0_185 hC hex) (fa0 (s_0_187 hC) (fa0 (s_0_190 hC) (fa0 (s_0_191 hC) (fa0 (s_0_192 hC) (fa0 (s_0_193 hC) (fa0 (s_0_194 hC) (fa0 (s_0_195 hC) (fa0 (s_0_196 hC) (fn0))))))))))))))))))))))))))))))))))))))))))))))))))))))))))))))))))))))))))))))))))))))))))))))))
set_option maxRecDepth 100000 in
theorem ms_0 (hex : HB.size = g.1) : MSnd g HB l MM D_0 := ⟨by decide +kernel, fun _ hC => ok_0 hex hC, fa0 (show endOK cX11_init none 199 0 from ⟨rfl, (by decide +kernel : decode cX11_init 199 = .ok (.return_, 1))⟩) (fn0)⟩
set_option maxRecDepth 100000 in
theorem s_1_0 (hC : SndC g HB l MM call) : Snd g HB l call cX1_init 2 yX1_init.cls yX1_init.name 0 (lf (q_load isR 0 1)) := lf_ok (p_aload_n (by decide +kernel : decode cX1_init 0 = .ok (.aload_n 0, 1)) rfl rfl)
set_option maxRecDepth 100000 in
theorem s_1_1 (hC : SndC g HB l MM call) : Snd g HB l call cX1_init 2 yX1_init.cls yX1_init.name 1 (s_obj 4) := m_obj (tin 1 45 (by decide +kernel) rfl) (tin 1 38 (by decide +kernel) rfl) (tin 1 39 (by decide +kernel) rfl) (by decide +kernel : decode cX1_init 1 = .ok (.invokespecial 3, 3)) rfl
set_option maxRecDepth 100000 in
theorem s_1_4 (hC : SndC g HB l MM call) : Snd g HB l call cX1_init 2 yX1_init.cls yX1_init.name 4 (lf (q_load isR 0 5)) := lf_ok (p_aload_n (by decide +kernel : decode cX1_init 4 = .ok (.aload_n 0, 1)) rfl rfl)
set_option maxRecDepth 100000 in
theorem s_1_5 (hC : SndC g HB l MM call) : Snd g HB l call cX1_init 2 yX1_init.cls yX1_init.name 5 (lf (q_load isI 1 6)) := lf_ok (p_iload_n (by decide +kernel : decode cX1_init 5 = .ok (.iload_n 1, 1)) rfl rfl)
set_option maxRecDepth 100000 in
theorem s_1_6 (hC : SndC g HB l MM call) : Snd g HB l call cX1_init 2 yX1_init.cls yX1_init.name 6 (s_br1 5 13 9) := b_le (by decide +kernel : decode cX1_init 6 = .ok (.ifCond .le 7, 3)) (by decide) rfl
set_option maxRecDepth 100000 in
theorem s_1_9 (hC : SndC g HB l MM call) : Snd g HB l call cX1_init 2 yX1_init.cls yX1_init.name 9 (lf (q_load isI 1 10)) := lf_ok (p_iload_n (by decide +kernel : decode cX1_init 9 = .ok (.iload_n 1, 1)) rfl rfl)
set_option maxRecDepth 100000 in
theorem s_1_10 (hC : SndC g HB l MM call) : Snd g HB l call cX1_init 2 yX1_init.cls yX1_init.name 10 (lf (q_goto 14)) := lf_ok (p_goto (by decide +kernel : decode cX1_init 10 = .ok (.goto 4, 3)) (by decide))
set_option maxRecDepth 100000 in
theorem s_1_14 (hC : SndC g HB l MM call) (hex : HB.size = g.1) : Snd g HB l call cX1_init 2 yX1_init.cls yX1_init.name 14 (s_newa 1 16) := h_newa hex (t := 1) (by decide) rfl (tin 1 53 (by decide +kernel) rfl) (by decide +kernel : decode cX1_init 14 = .ok (.newarray .byte, 2)) rfl
set_option maxRecDepth 100000 in
theorem s_1_16 (hC : SndC g HB l MM call) : Snd g HB l call cX1_init 2 yX1_init.cls yX1_init.name 16 (s_put 2 0 3 19) := h_putF (k := 0) (C := RX1) (T := TX1) (N := 2) (ci := 2) rfl (by decide) rfl rfl rfl (Or.inr ⟨_, rfl⟩) (tin 1 46 (by decide +kernel) rfl) (by decide +kernel : decode cX1_init 16 = .ok (.putfield 9, 3)) rfl
set_option maxRecDepth 100000 in
theorem ok_1 (hex : HB.size = g.1) (hC : SndC g HB l MM call) : ∀ x ∈ P_1, Snd g HB l call cX1_init 2 yX1_init.cls yX1_init.name x.1 x.2 := fa0 (s_1_0 hC) (fa0 (s_1_1 hC) (fa0 (s_1_4 hC) (fa0 (s_1_5 hC) (fa0 (s_1_6 hC) (fa0 (s_1_9 hC) (fa0 (s_1_10 hC) (fa0 (s_1_14 hC hex) (fa0 (s_1_16 hC) (fn0)))))))))
set_option maxRecDepth 100000 in
theorem ms_1 (hex : HB.size = g.1) : MSnd g HB l MM D_1 := ⟨by decide +kernel, fun _ hC => ok_1 hex hC, fa0 (show endOK cX1_init none 19 0 from ⟨rfl, (by decide +kernel : decode cX1_init 19 = .ok (.return_, 1))⟩) (fn0)⟩
set_option maxRecDepth 100000 in
theorem s_2_0 (hC : SndC g HB l MM call) : Snd g HB l call cX0_init 1 yX0_init.cls yX0_init.name 0 (lf (q_load isR 0 1)) := lf_ok (p_aload_n (by decide +kernel : decode cX0_init 0 = .ok (.aload_n 0, 1)) rfl rfl)
set_option maxRecDepth 100000 in
theorem s_2_1 (hC : SndC g HB l MM call) : Snd g HB l call cX0_init 1 yX0_init.cls yX0_init.name 1 (s_obj 4) := m_obj (tin 1 59 (by decide +kernel) rfl) (tin 1 38 (by decide +kernel) rfl) (tin 1 39 (by decide +kernel) rfl) (by decide +kernel : decode cX0_init 1 = .ok (.invokespecial 3, 3)) rfl
set_option maxRecDepth 100000 in
theorem s_2_4 (hC : SndC g HB l MM call) : Snd g HB l call cX0_init 1 yX0_init.cls yX0_init.name 4 (lf (q_load isR 0 5)) := lf_ok (p_aload_n (by decide +kernel : decode cX0_init 4 = .ok (.aload_n 0, 1)) rfl rfl)
set_option maxRecDepth 100000 in
theorem s_2_5 (hC : SndC g HB l MM call) : Snd g HB l call cX0_init 1 yX0_init.cls yX0_init.name 5 (lf (q_push (.inl 1024) 8)) := lf_ok (p_sipush (by decide +kernel : decode cX0_init 5 = .ok (.sipush 1024, 3)) (by decide +kernel) rfl)
set_option maxRecDepth 100000 in
theorem s_2_8 (hC : SndC g HB l MM call) (hex : HB.size = g.1) : Snd g HB l call cX0_init 1 yX0_init.cls yX0_init.name 8 (s_newa 0 10) := h_newa hex (t := 0) (by decide) rfl (tin 1 82 (by decide +kernel) rfl) (by decide +kernel : decode cX0_init 8 = .ok (.newarray .int, 2)) rfl
set_option maxRecDepth 100000 in
theorem s_2_10 (hC : SndC g HB l MM call) : Snd g HB l call cX0_init 1 yX0_init.cls yX0_init.name 10 (s_put 1 0 3 13) := h_putF (k := 0) (C := RX0) (T := TX0) (N := 7) (ci := 1) rfl (by decide) rfl rfl rfl (Or.inr ⟨_, rfl⟩) (tin 1 60 (by decide +kernel) rfl) (by decide +kernel : decode cX0_init 10 = .ok (.putfield 11, 3)) rfl
set_option maxRecDepth 100000 in
theorem s_2_13 (hC : SndC g HB l MM call) : Snd g HB l call cX0_init 1 yX0_init.cls yX0_init.name 13 (lf (q_load isR 0 14)) := lf_ok (p_aload_n (by decide +kernel : decode cX0_init 13 = .ok (.aload_n 0, 1)) rfl rfl)
set_option maxRecDepth 100000 in
theorem s_2_14 (hC : SndC g HB l MM call) : Snd g HB l call cX0_init 1 yX0_init.cls yX0_init.name 14 (lf (q_push (.inl 64) 16)) := lf_ok (p_bipush (by decide +kernel : decode cX0_init 14 = .ok (.bipush 64, 2)) (by decide +kernel) rfl)
set_option maxRecDepth 100000 in
theorem s_2_16 (hC : SndC g HB l MM call) (hex : HB.size = g.1) : Snd g HB l call cX0_init 1 yX0_init.cls yX0_init.name 16 (s_newa 0 18) := h_newa hex (t := 0) (by decide) rfl (tin 1 82 (by decide +kernel) rfl) (by decide +kernel : decode cX0_init 16 = .ok (.newarray .int, 2)) rfl
set_option maxRecDepth 100000 in
theorem s_2_18 (hC : SndC g HB l MM call) : Snd g HB l call cX0_init 1 yX0_init.cls yX0_init.name 18 (s_put 1 1 3 21) := h_put (k := 1) (C := RX0) (T := TX0) (N := 7) (ci := 1) rfl (by decide) rfl (Or.inr ⟨_, rfl⟩) (tin 1 61 (by decide +kernel) rfl)  (by decide +kernel : decode cX0_init 18 = .ok (.putfield 15, 3)) rfl
set_option maxRecDepth 100000 in
theorem s_2_21 (hC : SndC g HB l MM call) : Snd g HB l call cX0_init 1 yX0_init.cls yX0_init.name 21 (lf (q_load isR 0 22)) := lf_ok (p_aload_n (by decide +kernel : decode cX0_init 21 = .ok (.aload_n 0, 1)) rfl rfl)
set_option maxRecDepth 100000 in
theorem s_2_22 (hC : SndC g HB l MM call) : Snd g HB l call cX0_init 1 yX0_init.cls yX0_init.name 22 (lf (q_push (.inl 65) 24)) := lf_ok (p_bipush (by decide +kernel : decode cX0_init 22 = .ok (.bipush 65, 2)) (by decide +kernel) rfl)
set_option maxRecDepth 100000 in
theorem s_2_24 (hC : SndC g HB l MM call) (hex : HB.size = g.1) : Snd g HB l call cX0_init 1 yX0_init.cls yX0_init.name 24 (s_newa 0 26) := h_newa hex (t := 0) (by decide) rfl (tin 1 82 (by decide +kernel) rfl) (by decide +kernel : decode cX0_init 24 = .ok (.newarray .int, 2)) rfl
set_option maxRecDepth 100000 in
theorem s_2_26 (hC : SndC g HB l MM call) : Snd g HB l call cX0_init 1 yX0_init.cls yX0_init.name 26 (s_put 1 2 3 29) := h_put (k := 2) (C := RX0) (T := TX0) (N := 7) (ci := 1) rfl (by decide) rfl (Or.inr ⟨_, rfl⟩) (tin 1 62 (by decide +kernel) rfl)  (by decide +kernel : decode cX0_init 26 = .ok (.putfield 18, 3)) rfl
set_option maxRecDepth 100000 in
theorem s_2_29 (hC : SndC g HB l MM call) : Snd g HB l call cX0_init 1 yX0_init.cls yX0_init.name 29 (lf (q_load isR 0 30)) := lf_ok (p_aload_n (by decide +kernel : decode cX0_init 29 = .ok (.aload_n 0, 1)) rfl rfl)
set_option maxRecDepth 100000 in
theorem s_2_30 (hC : SndC g HB l MM call) : Snd g HB l call cX0_init 1 yX0_init.cls yX0_init.name 30 (lf (q_push (.inl 64) 32)) := lf_ok (p_bipush (by decide +kernel : decode cX0_init 30 = .ok (.bipush 64, 2)) (by decide +kernel) rfl)
set_option maxRecDepth 100000 in
theorem s_2_32 (hC : SndC g HB l MM call) (hex : HB.size = g.1) : Snd g HB l call cX0_init 1 yX0_init.cls yX0_init.name 32 (s_newa 0 34) := h_newa hex (t := 0) (by decide) rfl (tin 1 82 (by decide +kernel) rfl) (by decide +kernel : decode cX0_init 32 = .ok (.newarray .int, 2)) rfl
set_option maxRecDepth 100000 in
theorem s_2_34 (hC : SndC g HB l MM call) : Snd g HB l call cX0_init 1 yX0_init.cls yX0_init.name 34 (s_put 1 3 3 37) := h_put (k := 3) (C := RX0) (T := TX0) (N := 7) (ci := 1) rfl (by decide) rfl (Or.inr ⟨_, rfl⟩) (tin 1 63 (by decide +kernel) rfl)  (by decide +kernel : decode cX0_init 34 = .ok (.putfield 21, 3)) rfl
set_option maxRecDepth 100000 in
theorem s_2_37 (hC : SndC g HB l MM call) : Snd g HB l call cX0_init 1 yX0_init.cls yX0_init.name 37 (lf (q_load isR 0 38)) := lf_ok (p_aload_n (by decide +kernel : decode cX0_init 37 = .ok (.aload_n 0, 1)) rfl rfl)
set_option maxRecDepth 100000 in
theorem s_2_38 (hC : SndC g HB l MM call) : Snd g HB l call cX0_init 1 yX0_init.cls yX0_init.name 38 (lf (q_push (.inl 512) 41)) := lf_ok (p_sipush (by decide +kernel : decode cX0_init 38 = .ok (.sipush 512, 3)) (by decide +kernel) rfl)
set_option maxRecDepth 100000 in
theorem s_2_41 (hC : SndC g HB l MM call) (hex : HB.size = g.1) : Snd g HB l call cX0_init 1 yX0_init.cls yX0_init.name 41 (s_newa 1 43) := h_newa hex (t := 1) (by decide) rfl (tin 1 53 (by decide +kernel) rfl) (by decide +kernel : decode cX0_init 41 = .ok (.newarray .byte, 2)) rfl
set_option maxRecDepth 100000 in
theorem s_2_43 (hC : SndC g HB l MM call) : Snd g HB l call cX0_init 1 yX0_init.cls yX0_init.name 43 (s_put 1 4 3 46) := h_put (k := 4) (C := RX0) (T := TX0) (N := 7) (ci := 1) rfl (by decide) rfl (Or.inr ⟨_, rfl⟩) (tin 1 64 (by decide +kernel) rfl)  (by decide +kernel : decode cX0_init 43 = .ok (.putfield 24, 3)) rfl
set_option maxRecDepth 100000 in
theorem ok_2 (hex : HB.size = g.1) (hC : SndC g HB l MM call) : ∀ x ∈ P_2, Snd g HB l call cX0_init 1 yX0_init.cls yX0_init.name x.1 x.2 := fa0 (s_2_0 hC) (fa0 (s_2_1 hC) (fa0 (s_2_4 hC) (fa0 (s_2_5 hC) (fa0 (s_2_8 hC hex) (fa0 (s_2_10 hC) (fa0 (s_2_13 hC) (fa0 (s_2_14 hC) (fa0 (s_2_16 hC hex) (fa0 (s_2_18 hC) (fa0 (s_2_21 hC) (fa0 (s_2_22 hC) (fa0 (s_2_24 hC hex) (fa0 (s_2_26 hC) (fa0 (s_2_29 hC) (fa0 (s_2_30 hC) (fa0 (s_2_32 hC hex) (fa0 (s_2_34 hC) (fa0 (s_2_37 hC) (fa0 (s_2_38 hC) (fa0 (s_2_41 hC hex) (fa0 (s_2_43 hC) (fn0))))))))))))))))))))))
set_option maxRecDepth 100000 in
theorem ms_2 (hex : HB.size = g.1) : MSnd g HB l MM D_2 := ⟨by decide +kernel, fun _ hC => ok_2 hex hC, fa0 (show endOK cX0_init none 46 0 from ⟨rfl, (by decide +kernel : decode cX0_init 46 = .ok (.return_, 1))⟩) (fn0)⟩
set_option maxRecDepth 100000 in
theorem s_3_0 (hC : SndC g HB l MM call) : Snd g HB l call cJx4a65c_init_da8c8 1 yJx4a65c_init_da8c8.cls yJx4a65c_init_da8c8.name 0 (lf (q_load isR 0 1)) := lf_ok (p_aload_n (by decide +kernel : decode cJx4a65c_init_da8c8 0 = .ok (.aload_n 0, 1)) rfl rfl)
set_option maxRecDepth 100000 in
theorem s_3_1 (hC : SndC g HB l MM call) : Snd g HB l call cJx4a65c_init_da8c8 1 yJx4a65c_init_da8c8.cls yJx4a65c_init_da8c8.name 1 (s_cI 4 0 20 4) := c_I hC (M := MM) (id := 4) (d := D_4) rfl mok_4 rfl rfl rfl (tin 1 88 (by decide +kernel) rfl) (tin 1 89 (by decide +kernel) rfl) (tin 1 5 (by decide +kernel) rfl) (by decide +kernel : decode cJx4a65c_init_da8c8 1 = .ok (.invokespecial 1, 3)) rfl
set_option maxRecDepth 100000 in
theorem s_3_4 (hC : SndC g HB l MM call) : Snd g HB l call cJx4a65c_init_da8c8 1 yJx4a65c_init_da8c8.cls yJx4a65c_init_da8c8.name 4 (lf (q_load isR 0 5)) := lf_ok (p_aload_n (by decide +kernel : decode cJx4a65c_init_da8c8 4 = .ok (.aload_n 0, 1)) rfl rfl)
set_option maxRecDepth 100000 in
theorem s_3_5 (hC : SndC g HB l MM call) : Snd g HB l call cJx4a65c_init_da8c8 1 yJx4a65c_init_da8c8.cls yJx4a65c_init_da8c8.name 5 (s_val (.inr (.inr (.float 0))) 8) := m_gst (C := "java/util/ArrayList") (f9 := "DEFAULTCAPACITY_EMPTY_ELEMENTDATA") (d9 := "[Ljava/lang/Object;") (List.mem_of_getElem? (i := 0) rfl) (tin 1 95 (by decide +kernel) rfl) (by decide +kernel : decode cJx4a65c_init_da8c8 5 = .ok (.getstatic 39, 3)) rfl
set_option maxRecDepth 100000 in
theorem s_3_8 (hC : SndC g HB l MM call) : Snd g HB l call cJx4a65c_init_da8c8 1 yJx4a65c_init_da8c8.cls yJx4a65c_init_da8c8.name 8 (s_put 0 1 3 11) := h_put (k := 1) (C := RJx4a65c) (T := TJx4a65c) (N := 3) (ci := 0) rfl (by decide) rfl (Or.inr ⟨_, rfl⟩) (tin 1 97 (by decide +kernel) rfl)  (by decide +kernel : decode cJx4a65c_init_da8c8 8 = .ok (.putfield 9, 3)) rfl
set_option maxRecDepth 100000 in
theorem ok_3 (hex : HB.size = g.1) (hC : SndC g HB l MM call) : ∀ x ∈ P_3, Snd g HB l call cJx4a65c_init_da8c8 1 yJx4a65c_init_da8c8.cls yJx4a65c_init_da8c8.name x.1 x.2 := fa0 (s_3_0 hC) (fa0 (s_3_1 hC) (fa0 (s_3_4 hC) (fa0 (s_3_5 hC) (fa0 (s_3_8 hC) (fn0)))))
set_option maxRecDepth 100000 in
theorem ms_3 (hex : HB.size = g.1) : MSnd g HB l MM D_3 := ⟨by decide +kernel, fun _ hC => ok_3 hex hC, fa0 (show endOK cJx4a65c_init_da8c8 none 11 0 from ⟨rfl, (by decide +kernel : decode cJx4a65c_init_da8c8 11 = .ok (.return_, 1))⟩) (fn0)⟩
set_option maxRecDepth 100000 in
theorem s_4_0 (hC : SndC g HB l MM call) : Snd g HB l call cJxc12de_init_da8c8 1 yJxc12de_init_da8c8.cls yJxc12de_init_da8c8.name 0 (lf (q_load isR 0 1)) := lf_ok (p_aload_n (by decide +kernel : decode cJxc12de_init_da8c8 0 = .ok (.aload_n 0, 1)) rfl rfl)
set_option maxRecDepth 100000 in
theorem s_4_1 (hC : SndC g HB l MM call) : Snd g HB l call cJxc12de_init_da8c8 1 yJxc12de_init_da8c8.cls yJxc12de_init_da8c8.name 1 (s_cI 5 0 20 4) := c_I hC (M := MM) (id := 5) (d := D_5) rfl mok_5 rfl rfl rfl (tin 1 91 (by decide +kernel) rfl) (tin 1 92 (by decide +kernel) rfl) (tin 1 4 (by decide +kernel) rfl) (by decide +kernel : decode cJxc12de_init_da8c8 1 = .ok (.invokespecial 1, 3)) rfl
set_option maxRecDepth 100000 in
theorem s_4_4 (hC : SndC g HB l MM call) : Snd g HB l call cJxc12de_init_da8c8 1 yJxc12de_init_da8c8.cls yJxc12de_init_da8c8.name 4 (lf (q_load isR 0 5)) := lf_ok (p_aload_n (by decide +kernel : decode cJxc12de_init_da8c8 4 = .ok (.aload_n 0, 1)) rfl rfl)
set_option maxRecDepth 100000 in
theorem s_4_5 (hC : SndC g HB l MM call) : Snd g HB l call cJxc12de_init_da8c8 1 yJxc12de_init_da8c8.cls yJxc12de_init_da8c8.name 5 (lf (q_push (.inl 0) 6)) := lf_ok (p_iconst (by decide +kernel : decode cJxc12de_init_da8c8 5 = .ok (.iconst 0, 1)) (by decide +kernel) rfl)
set_option maxRecDepth 100000 in
theorem s_4_6 (hC : SndC g HB l MM call) : Snd g HB l call cJxc12de_init_da8c8 1 yJxc12de_init_da8c8.cls yJxc12de_init_da8c8.name 6 (s_put 0 0 0 9) := h_put (k := 0) (C := RJx4a65c) (T := TJx4a65c) (N := 3) (ci := 0) rfl (by decide) rfl rfl (tin 1 99 (by decide +kernel) rfl)  (by decide +kernel : decode cJxc12de_init_da8c8 6 = .ok (.putfield 7, 3)) rfl
set_option maxRecDepth 100000 in
theorem ok_4 (hex : HB.size = g.1) (hC : SndC g HB l MM call) : ∀ x ∈ P_4, Snd g HB l call cJxc12de_init_da8c8 1 yJxc12de_init_da8c8.cls yJxc12de_init_da8c8.name x.1 x.2 := fa0 (s_4_0 hC) (fa0 (s_4_1 hC) (fa0 (s_4_4 hC) (fa0 (s_4_5 hC) (fa0 (s_4_6 hC) (fn0)))))
set_option maxRecDepth 100000 in
theorem ms_4 (hex : HB.size = g.1) : MSnd g HB l MM D_4 := ⟨by decide +kernel, fun _ hC => ok_4 hex hC, fa0 (show endOK cJxc12de_init_da8c8 none 9 0 from ⟨rfl, (by decide +kernel : decode cJxc12de_init_da8c8 9 = .ok (.return_, 1))⟩) (fn0)⟩
set_option maxRecDepth 100000 in
theorem s_5_0 (hC : SndC g HB l MM call) : Snd g HB l call cJxa1e45_init_da8c8 1 yJxa1e45_init_da8c8.cls yJxa1e45_init_da8c8.name 0 (lf (q_load isR 0 1)) := lf_ok (p_aload_n (by decide +kernel : decode cJxa1e45_init_da8c8 0 = .ok (.aload_n 0, 1)) rfl rfl)
set_option maxRecDepth 100000 in
theorem s_5_1 (hC : SndC g HB l MM call) : Snd g HB l call cJxa1e45_init_da8c8 1 yJxa1e45_init_da8c8.cls yJxa1e45_init_da8c8.name 1 (s_obj 4) := m_obj (tin 1 94 (by decide +kernel) rfl) (tin 1 38 (by decide +kernel) rfl) (tin 1 39 (by decide +kernel) rfl) (by decide +kernel : decode cJxa1e45_init_da8c8 1 = .ok (.invokespecial 1, 3)) rfl
set_option maxRecDepth 100000 in
theorem ok_5 (hex : HB.size = g.1) (hC : SndC g HB l MM call) : ∀ x ∈ P_5, Snd g HB l call cJxa1e45_init_da8c8 1 yJxa1e45_init_da8c8.cls yJxa1e45_init_da8c8.name x.1 x.2 := fa0 (s_5_0 hC) (fa0 (s_5_1 hC) (fn0))
set_option maxRecDepth 100000 in
theorem ms_5 (hex : HB.size = g.1) : MSnd g HB l MM D_5 := ⟨by decide +kernel, fun _ hC => ok_5 hex hC, fa0 (show endOK cJxa1e45_init_da8c8 none 4 0 from ⟨rfl, (by decide +kernel : decode cJxa1e45_init_da8c8 4 = .ok (.return_, 1))⟩) (fn0)⟩
set_option maxRecDepth 100000 in
theorem s_6_0 (hC : SndC g HB l MM call) : Snd g HB l call cX10_init 3 yX10_init.cls yX10_init.name 0 (lf (q_load isR 0 1)) := lf_ok (p_aload_n (by decide +kernel : decode cX10_init 0 = .ok (.aload_n 0, 1)) rfl rfl)
set_option maxRecDepth 100000 in
theorem s_6_1 (hC : SndC g HB l MM call) : Snd g HB l call cX10_init 3 yX10_init.cls yX10_init.name 1 (s_obj 4) := m_obj (tin 1 114 (by decide +kernel) rfl) (tin 1 38 (by decide +kernel) rfl) (tin 1 39 (by decide +kernel) rfl) (by decide +kernel : decode cX10_init 1 = .ok (.invokespecial 3, 3)) rfl
set_option maxRecDepth 100000 in
theorem s_6_4 (hC : SndC g HB l MM call) : Snd g HB l call cX10_init 3 yX10_init.cls yX10_init.name 4 (lf (q_load isR 0 5)) := lf_ok (p_aload_n (by decide +kernel : decode cX10_init 4 = .ok (.aload_n 0, 1)) rfl rfl)
set_option maxRecDepth 100000 in
theorem s_6_5 (hC : SndC g HB l MM call) : Snd g HB l call cX10_init 3 yX10_init.cls yX10_init.name 5 (lf (q_push (.inl 3460) 8)) := lf_ok (p_sipush (by decide +kernel : decode cX10_init 5 = .ok (.sipush 3460, 3)) (by decide +kernel) rfl)
set_option maxRecDepth 100000 in
theorem s_6_8 (hC : SndC g HB l MM call) (hex : HB.size = g.1) : Snd g HB l call cX10_init 3 yX10_init.cls yX10_init.name 8 (s_newa 0 10) := h_newa hex (t := 0) (by decide) rfl (tin 1 82 (by decide +kernel) rfl) (by decide +kernel : decode cX10_init 8 = .ok (.newarray .int, 2)) rfl
set_option maxRecDepth 100000 in
theorem s_6_10 (hC : SndC g HB l MM call) : Snd g HB l call cX10_init 3 yX10_init.cls yX10_init.name 10 (s_put 8 2 3 13) := h_putF (k := 2) (C := RX10) (T := TX10) (N := 7) (ci := 8) rfl (by decide) rfl rfl rfl (Or.inr ⟨_, rfl⟩) (tin 1 117 (by decide +kernel) rfl) (by decide +kernel : decode cX10_init 10 = .ok (.putfield 11, 3)) rfl
set_option maxRecDepth 100000 in
theorem s_6_13 (hC : SndC g HB l MM call) : Snd g HB l call cX10_init 3 yX10_init.cls yX10_init.name 13 (lf (q_load isR 0 14)) := lf_ok (p_aload_n (by decide +kernel : decode cX10_init 13 = .ok (.aload_n 0, 1)) rfl rfl)
set_option maxRecDepth 100000 in
theorem s_6_14 (hC : SndC g HB l MM call) : Snd g HB l call cX10_init 3 yX10_init.cls yX10_init.name 14 (lf (q_push (.inl 3460) 17)) := lf_ok (p_sipush (by decide +kernel : decode cX10_init 14 = .ok (.sipush 3460, 3)) (by decide +kernel) rfl)
set_option maxRecDepth 100000 in
theorem s_6_17 (hC : SndC g HB l MM call) (hex : HB.size = g.1) : Snd g HB l call cX10_init 3 yX10_init.cls yX10_init.name 17 (s_newa 0 19) := h_newa hex (t := 0) (by decide) rfl (tin 1 82 (by decide +kernel) rfl) (by decide +kernel : decode cX10_init 17 = .ok (.newarray .int, 2)) rfl
set_option maxRecDepth 100000 in
theorem s_6_19 (hC : SndC g HB l MM call) : Snd g HB l call cX10_init 3 yX10_init.cls yX10_init.name 19 (s_put 8 3 3 22) := h_putF (k := 3) (C := RX10) (T := TX10) (N := 7) (ci := 8) rfl (by decide) rfl rfl rfl (Or.inr ⟨_, rfl⟩) (tin 1 118 (by decide +kernel) rfl) (by decide +kernel : decode cX10_init 19 = .ok (.putfield 15, 3)) rfl
set_option maxRecDepth 100000 in
theorem s_6_22 (hC : SndC g HB l MM call) : Snd g HB l call cX10_init 3 yX10_init.cls yX10_init.name 22 (lf (q_load isR 0 23)) := lf_ok (p_aload_n (by decide +kernel : decode cX10_init 22 = .ok (.aload_n 0, 1)) rfl rfl)
set_option maxRecDepth 100000 in
theorem s_6_23 (hC : SndC g HB l MM call) : Snd g HB l call cX10_init 3 yX10_init.cls yX10_init.name 23 (lf (q_push (.inl 3460) 26)) := lf_ok (p_sipush (by decide +kernel : decode cX10_init 23 = .ok (.sipush 3460, 3)) (by decide +kernel) rfl)
set_option maxRecDepth 100000 in
theorem s_6_26 (hC : SndC g HB l MM call) (hex : HB.size = g.1) : Snd g HB l call cX10_init 3 yX10_init.cls yX10_init.name 26 (s_newa 0 28) := h_newa hex (t := 0) (by decide) rfl (tin 1 82 (by decide +kernel) rfl) (by decide +kernel : decode cX10_init 26 = .ok (.newarray .int, 2)) rfl
set_option maxRecDepth 100000 in
theorem s_6_28 (hC : SndC g HB l MM call) : Snd g HB l call cX10_init 3 yX10_init.cls yX10_init.name 28 (s_put 8 4 3 31) := h_putF (k := 4) (C := RX10) (T := TX10) (N := 7) (ci := 8) rfl (by decide) rfl rfl rfl (Or.inr ⟨_, rfl⟩) (tin 1 119 (by decide +kernel) rfl) (by decide +kernel : decode cX10_init 28 = .ok (.putfield 18, 3)) rfl
set_option maxRecDepth 100000 in
theorem s_6_31 (hC : SndC g HB l MM call) : Snd g HB l call cX10_init 3 yX10_init.cls yX10_init.name 31 (lf (q_load isR 0 32)) := lf_ok (p_aload_n (by decide +kernel : decode cX10_init 31 = .ok (.aload_n 0, 1)) rfl rfl)
set_option maxRecDepth 100000 in
theorem s_6_32 (hC : SndC g HB l MM call) : Snd g HB l call cX10_init 3 yX10_init.cls yX10_init.name 32 (lf (q_push (.inl 60) 34)) := lf_ok (p_bipush (by decide +kernel : decode cX10_init 32 = .ok (.bipush 60, 2)) (by decide +kernel) rfl)
set_option maxRecDepth 100000 in
theorem s_6_34 (hC : SndC g HB l MM call) (hex : HB.size = g.1) : Snd g HB l call cX10_init 3 yX10_init.cls yX10_init.name 34 (s_newa 0 36) := h_newa hex (t := 0) (by decide) rfl (tin 1 82 (by decide +kernel) rfl) (by decide +kernel : decode cX10_init 34 = .ok (.newarray .int, 2)) rfl
set_option maxRecDepth 100000 in
theorem s_6_36 (hC : SndC g HB l MM call) : Snd g HB l call cX10_init 3 yX10_init.cls yX10_init.name 36 (s_put 8 5 3 39) := h_putF (k := 5) (C := RX10) (T := TX10) (N := 7) (ci := 8) rfl (by decide) rfl rfl rfl (Or.inr ⟨_, rfl⟩) (tin 1 120 (by decide +kernel) rfl) (by decide +kernel : decode cX10_init 36 = .ok (.putfield 21, 3)) rfl
set_option maxRecDepth 100000 in
theorem s_6_39 (hC : SndC g HB l MM call) : Snd g HB l call cX10_init 3 yX10_init.cls yX10_init.name 39 (lf (q_load isR 0 40)) := lf_ok (p_aload_n (by decide +kernel : decode cX10_init 39 = .ok (.aload_n 0, 1)) rfl rfl)
set_option maxRecDepth 100000 in
theorem s_6_40 (hC : SndC g HB l MM call) : Snd g HB l call cX10_init 3 yX10_init.cls yX10_init.name 40 (lf (q_load isR 1 41)) := lf_ok (p_aload_n (by decide +kernel : decode cX10_init 40 = .ok (.aload_n 1, 1)) rfl rfl)
set_option maxRecDepth 100000 in
theorem s_6_41 (hC : SndC g HB l MM call) : Snd g HB l call cX10_init 3 yX10_init.cls yX10_init.name 41 (s_put 8 0 3 44) := h_putF (k := 0) (C := RX10) (T := TX10) (N := 7) (ci := 8) rfl (by decide) rfl rfl rfl (Or.inl ⟨_, rfl⟩) (tin 1 115 (by decide +kernel) rfl) (by decide +kernel : decode cX10_init 41 = .ok (.putfield 24, 3)) rfl
set_option maxRecDepth 100000 in
theorem s_6_44 (hC : SndC g HB l MM call) : Snd g HB l call cX10_init 3 yX10_init.cls yX10_init.name 44 (lf (q_load isR 0 45)) := lf_ok (p_aload_n (by decide +kernel : decode cX10_init 44 = .ok (.aload_n 0, 1)) rfl rfl)
set_option maxRecDepth 100000 in
theorem s_6_45 (hC : SndC g HB l MM call) : Snd g HB l call cX10_init 3 yX10_init.cls yX10_init.name 45 (lf (q_load isR 2 46)) := lf_ok (p_aload_n (by decide +kernel : decode cX10_init 45 = .ok (.aload_n 2, 1)) rfl rfl)
set_option maxRecDepth 100000 in
theorem s_6_46 (hC : SndC g HB l MM call) : Snd g HB l call cX10_init 3 yX10_init.cls yX10_init.name 46 (s_put 8 1 3 49) := h_putF (k := 1) (C := RX10) (T := TX10) (N := 7) (ci := 8) rfl (by decide) rfl rfl rfl (Or.inl ⟨_, rfl⟩) (tin 1 116 (by decide +kernel) rfl) (by decide +kernel : decode cX10_init 46 = .ok (.putfield 28, 3)) rfl
set_option maxRecDepth 100000 in
theorem ok_6 (hex : HB.size = g.1) (hC : SndC g HB l MM call) : ∀ x ∈ P_6, Snd g HB l call cX10_init 3 yX10_init.cls yX10_init.name x.1 x.2 := fa0 (s_6_0 hC) (fa0 (s_6_1 hC) (fa0 (s_6_4 hC) (fa0 (s_6_5 hC) (fa0 (s_6_8 hC hex) (fa0 (s_6_10 hC) (fa0 (s_6_13 hC) (fa0 (s_6_14 hC) (fa0 (s_6_17 hC hex) (fa0 (s_6_19 hC) (fa0 (s_6_22 hC) (fa0 (s_6_23 hC) (fa0 (s_6_26 hC hex) (fa0 (s_6_28 hC) (fa0 (s_6_31 hC) (fa0 (s_6_32 hC) (fa0 (s_6_34 hC hex) (fa0 (s_6_36 hC) (fa0 (s_6_39 hC) (fa0 (s_6_40 hC) (fa0 (s_6_41 hC) (fa0 (s_6_44 hC) (fa0 (s_6_45 hC) (fa0 (s_6_46 hC) (fn0))))))))))))))))))))))))
set_option maxRecDepth 100000 in
theorem ms_6 (hex : HB.size = g.1) : MSnd g HB l MM D_6 := ⟨by decide +kernel, fun _ hC => ok_6 hex hC, fa0 (show endOK cX10_init none 49 0 from ⟨rfl, (by decide +kernel : decode cX10_init 49 = .ok (.return_, 1))⟩) (fn0)⟩
set_option maxRecDepth 100000 in
theorem s_7_0 (hC : SndC g HB l MM call) : Snd g HB l call cX7_init 4 yX7_init.cls yX7_init.name 0 (lf (q_load isR 0 1)) := lf_ok (p_aload_n (by decide +kernel : decode cX7_init 0 = .ok (.aload_n 0, 1)) rfl rfl)
set_option maxRecDepth 100000 in
theorem s_7_1 (hC : SndC g HB l MM call) : Snd g HB l call cX7_init 4 yX7_init.cls yX7_init.name 1 (s_obj 4) := m_obj (tin 1 142 (by decide +kernel) rfl) (tin 1 38 (by decide +kernel) rfl) (tin 1 39 (by decide +kernel) rfl) (by decide +kernel : decode cX7_init 1 = .ok (.invokespecial 3, 3)) rfl
set_option maxRecDepth 100000 in
theorem s_7_4 (hC : SndC g HB l MM call) : Snd g HB l call cX7_init 4 yX7_init.cls yX7_init.name 4 (lf (q_load isR 0 5)) := lf_ok (p_aload_n (by decide +kernel : decode cX7_init 4 = .ok (.aload_n 0, 1)) rfl rfl)
set_option maxRecDepth 100000 in
theorem s_7_5 (hC : SndC g HB l MM call) (hex : HB.size = g.1) : Snd g HB l call cX7_init 4 yX7_init.cls yX7_init.name 5 (s_new 2 2 [.inr (.inr .null), .inl 0] 8) := h_new hex (C := RX1) (T := TX1) (N := 2) (ci := 2) rfl (by decide +kernel) (by decide +kernel) (tin 1 143 (by decide +kernel) rfl) (tin 1 41 (by decide +kernel) rfl) (tin 1 2 (by decide +kernel) rfl) (by decide +kernel : decode cX7_init 5 = .ok (.new 9, 3)) rfl
set_option maxRecDepth 100000 in
theorem s_7_8 (hC : SndC g HB l MM call) : Snd g HB l call cX7_init 4 yX7_init.cls yX7_init.name 8 (lf (q_dup 9)) := lf_ok (p_dup (by decide +kernel : decode cX7_init 8 = .ok (.dup, 1)) rfl)
set_option maxRecDepth 100000 in
theorem s_7_9 (hC : SndC g HB l MM call) : Snd g HB l call cX7_init 4 yX7_init.cls yX7_init.name 9 (lf (q_push (.inl 1200) 12)) := lf_ok (p_sipush (by decide +kernel : decode cX7_init 9 = .ok (.sipush 1200, 3)) (by decide +kernel) rfl)
set_option maxRecDepth 100000 in
theorem s_7_12 (hC : SndC g HB l MM call) : Snd g HB l call cX7_init 4 yX7_init.cls yX7_init.name 12 (s_cI 1 1 21 15) := c_I hC (M := MM) (id := 1) (d := D_1) rfl mok_1 rfl rfl rfl (tin 1 144 (by decide +kernel) rfl) (tin 1 43 (by decide +kernel) rfl) (tin 1 2 (by decide +kernel) rfl) (by decide +kernel : decode cX7_init 12 = .ok (.invokespecial 11, 3)) rfl
set_option maxRecDepth 100000 in
theorem s_7_15 (hC : SndC g HB l MM call) : Snd g HB l call cX7_init 4 yX7_init.cls yX7_init.name 15 (s_put 6 4 3 18) := h_putF (k := 4) (C := RX7) (T := TX7) (N := 15) (ci := 6) rfl (by decide) rfl rfl rfl (Or.inl ⟨_, rfl⟩) (tin 1 173 (by decide +kernel) rfl) (by decide +kernel : decode cX7_init 15 = .ok (.putfield 14, 3)) rfl
set_option maxRecDepth 100000 in
theorem s_7_18 (hC : SndC g HB l MM call) : Snd g HB l call cX7_init 4 yX7_init.cls yX7_init.name 18 (lf (q_load isR 0 19)) := lf_ok (p_aload_n (by decide +kernel : decode cX7_init 18 = .ok (.aload_n 0, 1)) rfl rfl)
set_option maxRecDepth 100000 in
theorem s_7_19 (hC : SndC g HB l MM call) (hex : HB.size = g.1) : Snd g HB l call cX7_init 4 yX7_init.cls yX7_init.name 19 (s_new 2 2 [.inr (.inr .null), .inl 0] 22) := h_new hex (C := RX1) (T := TX1) (N := 2) (ci := 2) rfl (by decide +kernel) (by decide +kernel) (tin 1 143 (by decide +kernel) rfl) (tin 1 41 (by decide +kernel) rfl) (tin 1 2 (by decide +kernel) rfl) (by decide +kernel : decode cX7_init 19 = .ok (.new 9, 3)) rfl
set_option maxRecDepth 100000 in
theorem s_7_22 (hC : SndC g HB l MM call) : Snd g HB l call cX7_init 4 yX7_init.cls yX7_init.name 22 (lf (q_dup 23)) := lf_ok (p_dup (by decide +kernel : decode cX7_init 22 = .ok (.dup, 1)) rfl)
set_option maxRecDepth 100000 in
theorem s_7_23 (hC : SndC g HB l MM call) : Snd g HB l call cX7_init 4 yX7_init.cls yX7_init.name 23 (lf (q_push (.inl 1200) 26)) := lf_ok (p_sipush (by decide +kernel : decode cX7_init 23 = .ok (.sipush 1200, 3)) (by decide +kernel) rfl)
set_option maxRecDepth 100000 in
theorem s_7_26 (hC : SndC g HB l MM call) : Snd g HB l call cX7_init 4 yX7_init.cls yX7_init.name 26 (s_cI 1 1 21 29) := c_I hC (M := MM) (id := 1) (d := D_1) rfl mok_1 rfl rfl rfl (tin 1 144 (by decide +kernel) rfl) (tin 1 43 (by decide +kernel) rfl) (tin 1 2 (by decide +kernel) rfl) (by decide +kernel : decode cX7_init 26 = .ok (.invokespecial 11, 3)) rfl
set_option maxRecDepth 100000 in
theorem s_7_29 (hC : SndC g HB l MM call) : Snd g HB l call cX7_init 4 yX7_init.cls yX7_init.name 29 (s_put 6 5 3 32) := h_putF (k := 5) (C := RX7) (T := TX7) (N := 15) (ci := 6) rfl (by decide) rfl rfl rfl (Or.inl ⟨_, rfl⟩) (tin 1 174 (by decide +kernel) rfl) (by decide +kernel : decode cX7_init 29 = .ok (.putfield 20, 3)) rfl
set_option maxRecDepth 100000 in
theorem s_7_32 (hC : SndC g HB l MM call) : Snd g HB l call cX7_init 4 yX7_init.cls yX7_init.name 32 (lf (q_load isR 0 33)) := lf_ok (p_aload_n (by decide +kernel : decode cX7_init 32 = .ok (.aload_n 0, 1)) rfl rfl)
set_option maxRecDepth 100000 in
theorem s_7_33 (hC : SndC g HB l MM call) (hex : HB.size = g.1) : Snd g HB l call cX7_init 4 yX7_init.cls yX7_init.name 33 (s_new 2 2 [.inr (.inr .null), .inl 0] 36) := h_new hex (C := RX1) (T := TX1) (N := 2) (ci := 2) rfl (by decide +kernel) (by decide +kernel) (tin 1 143 (by decide +kernel) rfl) (tin 1 41 (by decide +kernel) rfl) (tin 1 2 (by decide +kernel) rfl) (by decide +kernel : decode cX7_init 33 = .ok (.new 9, 3)) rfl
set_option maxRecDepth 100000 in
theorem s_7_36 (hC : SndC g HB l MM call) : Snd g HB l call cX7_init 4 yX7_init.cls yX7_init.name 36 (lf (q_dup 37)) := lf_ok (p_dup (by decide +kernel : decode cX7_init 36 = .ok (.dup, 1)) rfl)
set_option maxRecDepth 100000 in
theorem s_7_37 (hC : SndC g HB l MM call) : Snd g HB l call cX7_init 4 yX7_init.cls yX7_init.name 37 (lf (q_push (.inl 16) 39)) := lf_ok (p_bipush (by decide +kernel : decode cX7_init 37 = .ok (.bipush 16, 2)) (by decide +kernel) rfl)
set_option maxRecDepth 100000 in
theorem s_7_39 (hC : SndC g HB l MM call) : Snd g HB l call cX7_init 4 yX7_init.cls yX7_init.name 39 (s_cI 1 1 21 42) := c_I hC (M := MM) (id := 1) (d := D_1) rfl mok_1 rfl rfl rfl (tin 1 144 (by decide +kernel) rfl) (tin 1 43 (by decide +kernel) rfl) (tin 1 2 (by decide +kernel) rfl) (by decide +kernel : decode cX7_init 39 = .ok (.invokespecial 11, 3)) rfl
set_option maxRecDepth 100000 in
theorem s_7_42 (hC : SndC g HB l MM call) : Snd g HB l call cX7_init 4 yX7_init.cls yX7_init.name 42 (s_put 6 6 3 45) := h_putF (k := 6) (C := RX7) (T := TX7) (N := 15) (ci := 6) rfl (by decide) rfl rfl rfl (Or.inl ⟨_, rfl⟩) (tin 1 175 (by decide +kernel) rfl) (by decide +kernel : decode cX7_init 42 = .ok (.putfield 23, 3)) rfl
set_option maxRecDepth 100000 in
theorem s_7_45 (hC : SndC g HB l MM call) : Snd g HB l call cX7_init 4 yX7_init.cls yX7_init.name 45 (lf (q_load isR 0 46)) := lf_ok (p_aload_n (by decide +kernel : decode cX7_init 45 = .ok (.aload_n 0, 1)) rfl rfl)
set_option maxRecDepth 100000 in
theorem s_7_46 (hC : SndC g HB l MM call) (hex : HB.size = g.1) : Snd g HB l call cX7_init 4 yX7_init.cls yX7_init.name 46 (s_new 2 2 [.inr (.inr .null), .inl 0] 49) := h_new hex (C := RX1) (T := TX1) (N := 2) (ci := 2) rfl (by decide +kernel) (by decide +kernel) (tin 1 143 (by decide +kernel) rfl) (tin 1 41 (by decide +kernel) rfl) (tin 1 2 (by decide +kernel) rfl) (by decide +kernel : decode cX7_init 46 = .ok (.new 9, 3)) rfl
set_option maxRecDepth 100000 in
theorem s_7_49 (hC : SndC g HB l MM call) : Snd g HB l call cX7_init 4 yX7_init.cls yX7_init.name 49 (lf (q_dup 50)) := lf_ok (p_dup (by decide +kernel : decode cX7_init 49 = .ok (.dup, 1)) rfl)
set_option maxRecDepth 100000 in
theorem s_7_50 (hC : SndC g HB l MM call) : Snd g HB l call cX7_init 4 yX7_init.cls yX7_init.name 50 (lf (q_push (.inl 41) 52)) := lf_ok (p_bipush (by decide +kernel : decode cX7_init 50 = .ok (.bipush 41, 2)) (by decide +kernel) rfl)
set_option maxRecDepth 100000 in
theorem s_7_52 (hC : SndC g HB l MM call) : Snd g HB l call cX7_init 4 yX7_init.cls yX7_init.name 52 (s_cI 1 1 21 55) := c_I hC (M := MM) (id := 1) (d := D_1) rfl mok_1 rfl rfl rfl (tin 1 144 (by decide +kernel) rfl) (tin 1 43 (by decide +kernel) rfl) (tin 1 2 (by decide +kernel) rfl) (by decide +kernel : decode cX7_init 52 = .ok (.invokespecial 11, 3)) rfl
set_option maxRecDepth 100000 in
theorem s_7_55 (hC : SndC g HB l MM call) : Snd g HB l call cX7_init 4 yX7_init.cls yX7_init.name 55 (s_put 6 7 3 58) := h_putF (k := 7) (C := RX7) (T := TX7) (N := 15) (ci := 6) rfl (by decide) rfl rfl rfl (Or.inl ⟨_, rfl⟩) (tin 1 176 (by decide +kernel) rfl) (by decide +kernel : decode cX7_init 55 = .ok (.putfield 26, 3)) rfl
set_option maxRecDepth 100000 in
theorem s_7_58 (hC : SndC g HB l MM call) : Snd g HB l call cX7_init 4 yX7_init.cls yX7_init.name 58 (lf (q_load isR 0 59)) := lf_ok (p_aload_n (by decide +kernel : decode cX7_init 58 = .ok (.aload_n 0, 1)) rfl rfl)
set_option maxRecDepth 100000 in
theorem s_7_59 (hC : SndC g HB l MM call) : Snd g HB l call cX7_init 4 yX7_init.cls yX7_init.name 59 (lf (q_push (.inl 1200) 62)) := lf_ok (p_sipush (by decide +kernel : decode cX7_init 59 = .ok (.sipush 1200, 3)) (by decide +kernel) rfl)
set_option maxRecDepth 100000 in
theorem s_7_62 (hC : SndC g HB l MM call) (hex : HB.size = g.1) : Snd g HB l call cX7_init 4 yX7_init.cls yX7_init.name 62 (s_newa 0 64) := h_newa hex (t := 0) (by decide) rfl (tin 1 82 (by decide +kernel) rfl) (by decide +kernel : decode cX7_init 62 = .ok (.newarray .int, 2)) rfl
set_option maxRecDepth 100000 in
theorem s_7_64 (hC : SndC g HB l MM call) : Snd g HB l call cX7_init 4 yX7_init.cls yX7_init.name 64 (s_put 6 8 3 67) := h_putF (k := 8) (C := RX7) (T := TX7) (N := 15) (ci := 6) rfl (by decide) rfl rfl rfl (Or.inr ⟨_, rfl⟩) (tin 1 177 (by decide +kernel) rfl) (by decide +kernel : decode cX7_init 64 = .ok (.putfield 29, 3)) rfl
set_option maxRecDepth 100000 in
theorem s_7_67 (hC : SndC g HB l MM call) : Snd g HB l call cX7_init 4 yX7_init.cls yX7_init.name 67 (lf (q_load isR 0 68)) := lf_ok (p_aload_n (by decide +kernel : decode cX7_init 67 = .ok (.aload_n 0, 1)) rfl rfl)
set_option maxRecDepth 100000 in
theorem s_7_68 (hC : SndC g HB l MM call) : Snd g HB l call cX7_init 4 yX7_init.cls yX7_init.name 68 (lf (q_push (.inl 16) 70)) := lf_ok (p_bipush (by decide +kernel : decode cX7_init 68 = .ok (.bipush 16, 2)) (by decide +kernel) rfl)
set_option maxRecDepth 100000 in
theorem s_7_70 (hC : SndC g HB l MM call) (hex : HB.size = g.1) : Snd g HB l call cX7_init 4 yX7_init.cls yX7_init.name 70 (s_newa 0 72) := h_newa hex (t := 0) (by decide) rfl (tin 1 82 (by decide +kernel) rfl) (by decide +kernel : decode cX7_init 70 = .ok (.newarray .int, 2)) rfl
set_option maxRecDepth 100000 in
theorem s_7_72 (hC : SndC g HB l MM call) : Snd g HB l call cX7_init 4 yX7_init.cls yX7_init.name 72 (s_put 6 9 3 75) := h_putF (k := 9) (C := RX7) (T := TX7) (N := 15) (ci := 6) rfl (by decide) rfl rfl rfl (Or.inr ⟨_, rfl⟩) (tin 1 178 (by decide +kernel) rfl) (by decide +kernel : decode cX7_init 72 = .ok (.putfield 33, 3)) rfl
set_option maxRecDepth 100000 in
theorem s_7_75 (hC : SndC g HB l MM call) : Snd g HB l call cX7_init 4 yX7_init.cls yX7_init.name 75 (lf (q_load isR 0 76)) := lf_ok (p_aload_n (by decide +kernel : decode cX7_init 75 = .ok (.aload_n 0, 1)) rfl rfl)
set_option maxRecDepth 100000 in
theorem s_7_76 (hC : SndC g HB l MM call) : Snd g HB l call cX7_init 4 yX7_init.cls yX7_init.name 76 (lf (q_push (.inl 401) 79)) := lf_ok (p_sipush (by decide +kernel : decode cX7_init 76 = .ok (.sipush 401, 3)) (by decide +kernel) rfl)
set_option maxRecDepth 100000 in
theorem s_7_79 (hC : SndC g HB l MM call) (hex : HB.size = g.1) : Snd g HB l call cX7_init 4 yX7_init.cls yX7_init.name 79 (s_newa 0 81) := h_newa hex (t := 0) (by decide) rfl (tin 1 82 (by decide +kernel) rfl) (by decide +kernel : decode cX7_init 79 = .ok (.newarray .int, 2)) rfl
set_option maxRecDepth 100000 in
theorem s_7_81 (hC : SndC g HB l MM call) : Snd g HB l call cX7_init 4 yX7_init.cls yX7_init.name 81 (s_put 6 10 3 84) := h_putF (k := 10) (C := RX7) (T := TX7) (N := 15) (ci := 6) rfl (by decide) rfl rfl rfl (Or.inr ⟨_, rfl⟩) (tin 1 179 (by decide +kernel) rfl) (by decide +kernel : decode cX7_init 81 = .ok (.putfield 36, 3)) rfl
set_option maxRecDepth 100000 in
theorem s_7_84 (hC : SndC g HB l MM call) : Snd g HB l call cX7_init 4 yX7_init.cls yX7_init.name 84 (lf (q_load isR 0 85)) := lf_ok (p_aload_n (by decide +kernel : decode cX7_init 84 = .ok (.aload_n 0, 1)) rfl rfl)
set_option maxRecDepth 100000 in
theorem s_7_85 (hC : SndC g HB l MM call) : Snd g HB l call cX7_init 4 yX7_init.cls yX7_init.name 85 (lf (q_push (.inl 401) 88)) := lf_ok (p_sipush (by decide +kernel : decode cX7_init 85 = .ok (.sipush 401, 3)) (by decide +kernel) rfl)
set_option maxRecDepth 100000 in
theorem s_7_88 (hC : SndC g HB l MM call) (hex : HB.size = g.1) : Snd g HB l call cX7_init 4 yX7_init.cls yX7_init.name 88 (s_newa 0 90) := h_newa hex (t := 0) (by decide) rfl (tin 1 82 (by decide +kernel) rfl) (by decide +kernel : decode cX7_init 88 = .ok (.newarray .int, 2)) rfl
set_option maxRecDepth 100000 in
theorem s_7_90 (hC : SndC g HB l MM call) : Snd g HB l call cX7_init 4 yX7_init.cls yX7_init.name 90 (s_put 6 11 3 93) := h_putF (k := 11) (C := RX7) (T := TX7) (N := 15) (ci := 6) rfl (by decide) rfl rfl rfl (Or.inr ⟨_, rfl⟩) (tin 1 180 (by decide +kernel) rfl) (by decide +kernel : decode cX7_init 90 = .ok (.putfield 39, 3)) rfl
set_option maxRecDepth 100000 in
theorem s_7_93 (hC : SndC g HB l MM call) : Snd g HB l call cX7_init 4 yX7_init.cls yX7_init.name 93 (lf (q_load isR 0 94)) := lf_ok (p_aload_n (by decide +kernel : decode cX7_init 93 = .ok (.aload_n 0, 1)) rfl rfl)
set_option maxRecDepth 100000 in
theorem s_7_94 (hC : SndC g HB l MM call) : Snd g HB l call cX7_init 4 yX7_init.cls yX7_init.name 94 (lf (q_push (.inl 401) 97)) := lf_ok (p_sipush (by decide +kernel : decode cX7_init 94 = .ok (.sipush 401, 3)) (by decide +kernel) rfl)
set_option maxRecDepth 100000 in
theorem s_7_97 (hC : SndC g HB l MM call) (hex : HB.size = g.1) : Snd g HB l call cX7_init 4 yX7_init.cls yX7_init.name 97 (s_newa 0 99) := h_newa hex (t := 0) (by decide) rfl (tin 1 82 (by decide +kernel) rfl) (by decide +kernel : decode cX7_init 97 = .ok (.newarray .int, 2)) rfl
set_option maxRecDepth 100000 in
theorem s_7_99 (hC : SndC g HB l MM call) : Snd g HB l call cX7_init 4 yX7_init.cls yX7_init.name 99 (s_put 6 12 3 102) := h_putF (k := 12) (C := RX7) (T := TX7) (N := 15) (ci := 6) rfl (by decide) rfl rfl rfl (Or.inr ⟨_, rfl⟩) (tin 1 181 (by decide +kernel) rfl) (by decide +kernel : decode cX7_init 99 = .ok (.putfield 42, 3)) rfl
set_option maxRecDepth 100000 in
theorem s_7_102 (hC : SndC g HB l MM call) : Snd g HB l call cX7_init 4 yX7_init.cls yX7_init.name 102 (lf (q_load isR 0 103)) := lf_ok (p_aload_n (by decide +kernel : decode cX7_init 102 = .ok (.aload_n 0, 1)) rfl rfl)
set_option maxRecDepth 100000 in
theorem s_7_103 (hC : SndC g HB l MM call) : Snd g HB l call cX7_init 4 yX7_init.cls yX7_init.name 103 (lf (q_load isR 1 104)) := lf_ok (p_aload_n (by decide +kernel : decode cX7_init 103 = .ok (.aload_n 1, 1)) rfl rfl)
set_option maxRecDepth 100000 in
theorem s_7_104 (hC : SndC g HB l MM call) : Snd g HB l call cX7_init 4 yX7_init.cls yX7_init.name 104 (s_put 6 0 3 107) := h_putF (k := 0) (C := RX7) (T := TX7) (N := 15) (ci := 6) rfl (by decide) rfl rfl rfl (Or.inl ⟨_, rfl⟩) (tin 1 169 (by decide +kernel) rfl) (by decide +kernel : decode cX7_init 104 = .ok (.putfield 45, 3)) rfl
set_option maxRecDepth 100000 in
theorem s_7_107 (hC : SndC g HB l MM call) : Snd g HB l call cX7_init 4 yX7_init.cls yX7_init.name 107 (lf (q_load isR 0 108)) := lf_ok (p_aload_n (by decide +kernel : decode cX7_init 107 = .ok (.aload_n 0, 1)) rfl rfl)
set_option maxRecDepth 100000 in
theorem s_7_108 (hC : SndC g HB l MM call) : Snd g HB l call cX7_init 4 yX7_init.cls yX7_init.name 108 (lf (q_load isR 2 109)) := lf_ok (p_aload_n (by decide +kernel : decode cX7_init 108 = .ok (.aload_n 2, 1)) rfl rfl)
set_option maxRecDepth 100000 in
theorem s_7_109 (hC : SndC g HB l MM call) : Snd g HB l call cX7_init 4 yX7_init.cls yX7_init.name 109 (s_put 6 1 3 112) := h_putF (k := 1) (C := RX7) (T := TX7) (N := 15) (ci := 6) rfl (by decide) rfl rfl rfl (Or.inl ⟨_, rfl⟩) (tin 1 170 (by decide +kernel) rfl) (by decide +kernel : decode cX7_init 109 = .ok (.putfield 48, 3)) rfl
set_option maxRecDepth 100000 in
theorem s_7_112 (hC : SndC g HB l MM call) : Snd g HB l call cX7_init 4 yX7_init.cls yX7_init.name 112 (lf (q_load isR 0 113)) := lf_ok (p_aload_n (by decide +kernel : decode cX7_init 112 = .ok (.aload_n 0, 1)) rfl rfl)
set_option maxRecDepth 100000 in
theorem s_7_113 (hC : SndC g HB l MM call) : Snd g HB l call cX7_init 4 yX7_init.cls yX7_init.name 113 (lf (q_load isR 3 114)) := lf_ok (p_aload_n (by decide +kernel : decode cX7_init 113 = .ok (.aload_n 3, 1)) rfl rfl)
set_option maxRecDepth 100000 in
theorem s_7_114 (hC : SndC g HB l MM call) : Snd g HB l call cX7_init 4 yX7_init.cls yX7_init.name 114 (s_put 6 2 3 117) := h_putF (k := 2) (C := RX7) (T := TX7) (N := 15) (ci := 6) rfl (by decide) rfl rfl rfl (Or.inl ⟨_, rfl⟩) (tin 1 171 (by decide +kernel) rfl) (by decide +kernel : decode cX7_init 114 = .ok (.putfield 52, 3)) rfl
set_option maxRecDepth 100000 in
theorem s_7_117 (hC : SndC g HB l MM call) : Snd g HB l call cX7_init 4 yX7_init.cls yX7_init.name 117 (lf (q_load isR 0 118)) := lf_ok (p_aload_n (by decide +kernel : decode cX7_init 117 = .ok (.aload_n 0, 1)) rfl rfl)
set_option maxRecDepth 100000 in
theorem s_7_118 (hC : SndC g HB l MM call) (hex : HB.size = g.1) : Snd g HB l call cX7_init 4 yX7_init.cls yX7_init.name 118 (s_new 3 5 [.inr (.inr .null), .inr (.inr .null), .inr (.inr .null), .inl 0, .inl 0] 121) := h_new hex (C := RX4) (T := TX4) (N := 5) (ci := 3) rfl (by decide +kernel) (by decide +kernel) (tin 1 145 (by decide +kernel) rfl) (tin 1 146 (by decide +kernel) rfl) (tin 1 9 (by decide +kernel) rfl) (by decide +kernel : decode cX7_init 118 = .ok (.new 55, 3)) rfl
set_option maxRecDepth 100000 in
theorem s_7_121 (hC : SndC g HB l MM call) : Snd g HB l call cX7_init 4 yX7_init.cls yX7_init.name 121 (lf (q_dup 122)) := lf_ok (p_dup (by decide +kernel : decode cX7_init 121 = .ok (.dup, 1)) rfl)
set_option maxRecDepth 100000 in
theorem s_7_122 (hC : SndC g HB l MM call) : Snd g HB l call cX7_init 4 yX7_init.cls yX7_init.name 122 (lf (q_load isR 1 123)) := lf_ok (p_aload_n (by decide +kernel : decode cX7_init 122 = .ok (.aload_n 1, 1)) rfl rfl)
set_option maxRecDepth 100000 in
theorem s_7_123 (hC : SndC g HB l MM call) : Snd g HB l call cX7_init 4 yX7_init.cls yX7_init.name 123 (s_cI 8 1 21 126) := c_I hC (M := MM) (id := 8) (d := D_8) rfl mok_8 rfl rfl rfl (tin 1 147 (by decide +kernel) rfl) (tin 1 148 (by decide +kernel) rfl) (tin 1 9 (by decide +kernel) rfl) (by decide +kernel : decode cX7_init 123 = .ok (.invokespecial 57, 3)) rfl
set_option maxRecDepth 100000 in
theorem s_7_126 (hC : SndC g HB l MM call) : Snd g HB l call cX7_init 4 yX7_init.cls yX7_init.name 126 (s_put 6 3 3 129) := h_putF (k := 3) (C := RX7) (T := TX7) (N := 15) (ci := 6) rfl (by decide) rfl rfl rfl (Or.inl ⟨_, rfl⟩) (tin 1 172 (by decide +kernel) rfl) (by decide +kernel : decode cX7_init 126 = .ok (.putfield 60, 3)) rfl
set_option maxRecDepth 100000 in
theorem ok_7 (hex : HB.size = g.1) (hC : SndC g HB l MM call) : ∀ x ∈ P_7, Snd g HB l call cX7_init 4 yX7_init.cls yX7_init.name x.1 x.2 := fa0 (s_7_0 hC) (fa0 (s_7_1 hC) (fa0 (s_7_4 hC) (fa0 (s_7_5 hC hex) (fa0 (s_7_8 hC) (fa0 (s_7_9 hC) (fa0 (s_7_12 hC) (fa0 (s_7_15 hC) (fa0 (s_7_18 hC) (fa0 (s_7_19 hC hex) (fa0 (s_7_22 hC) (fa0 (s_7_23 hC) (fa0 (s_7_26 hC) (fa0 (s_7_29 hC) (fa0 (s_7_32 hC) (fa0 (s_7_33 hC hex) (fa0 (s_7_36 hC) (fa0 (s_7_37 hC) (fa0 (s_7_39 hC) (fa0 (s_7_42 hC) (fa0 (s_7_45 hC) (fa0 (s_7_46 hC hex) (fa0 (s_7_49 hC) (fa0 (s_7_50 hC) (fa0 (s_7_52 hC) (fa0 (s_7_55 hC) (fa0 (s_7_58 hC) (fa0 (s_7_59 hC) (fa0 (s_7_62 hC hex) (fa0 (s_7_64 hC) (fa0 (s_7_67 hC) (fa0 (s_7_68 hC) (fa0 (s_7_70 hC hex) (fa0 (s_7_72 hC) (fa0 (s_7_75 hC) (fa0 (s_7_76 hC) (fa0 (s_7_79 hC hex) (fa0 (s_7_81 hC) (fa0 (s_7_84 hC) (fa0 (s_7_85 hC) (fa0 (s_7_88 hC hex) (fa0 (s_7_90 hC) (fa0 (s_7_93 hC) (fa0 (s_7_94 hC) (fa0 (s_7_97 hC hex) (fa0 (s_7_99 hC) (fa0 (s_7_102 hC) (fa0 (s_7_103 hC) (fa0 (s_7_104 hC) (fa0 (s_7_107 hC) (fa0 (s_7_108 hC) (fa0 (s_7_109 hC) (fa0 (s_7_112 hC) (fa0 (s_7_113 hC) (fa0 (s_7_114 hC) (fa0 (s_7_117 hC) (fa0 (s_7_118 hC hex) (fa0 (s_7_121 hC) (fa0 (s_7_122 hC) (fa0 (s_7_123 hC) (fa0 (s_7_126 hC) (fn0)))))))))))))))))))))))))))))))))))))))))))))))))))))))))))))
set_option maxRecDepth 100000 in
theorem ms_7 (hex : HB.size = g.1) : MSnd g HB l MM D_7 := ⟨by decide +kernel, fun _ hC => ok_7 hex hC, fa0 (show endOK cX7_init none 129 0 from ⟨rfl, (by decide +kernel : decode cX7_init 129 = .ok (.return_, 1))⟩) (fn0)⟩
set_option maxRecDepth 100000 in
theorem s_8_0 (hC : SndC g HB l MM call) : Snd g HB l call cX4_init 2 yX4_init.cls yX4_init.name 0 (lf (q_load isR 0 1)) := lf_ok (p_aload_n (by decide +kernel : decode cX4_init 0 = .ok (.aload_n 0, 1)) rfl rfl)
set_option maxRecDepth 100000 in
theorem s_8_1 (hC : SndC g HB l MM call) : Snd g HB l call cX4_init 2 yX4_init.cls yX4_init.name 1 (s_obj 4) := m_obj (tin 1 150 (by decide +kernel) rfl) (tin 1 38 (by decide +kernel) rfl) (tin 1 39 (by decide +kernel) rfl) (by decide +kernel : decode cX4_init 1 = .ok (.invokespecial 3, 3)) rfl
set_option maxRecDepth 100000 in
theorem s_8_4 (hC : SndC g HB l MM call) : Snd g HB l call cX4_init 2 yX4_init.cls yX4_init.name 4 (lf (q_load isR 0 5)) := lf_ok (p_aload_n (by decide +kernel : decode cX4_init 4 = .ok (.aload_n 0, 1)) rfl rfl)
set_option maxRecDepth 100000 in
theorem s_8_5 (hC : SndC g HB l MM call) : Snd g HB l call cX4_init 2 yX4_init.cls yX4_init.name 5 (lf (q_push (.inl 9) 7)) := lf_ok (p_bipush (by decide +kernel : decode cX4_init 5 = .ok (.bipush 9, 2)) (by decide +kernel) rfl)
set_option maxRecDepth 100000 in
theorem s_8_7 (hC : SndC g HB l MM call) (hex : HB.size = g.1) : Snd g HB l call cX4_init 2 yX4_init.cls yX4_init.name 7 (s_newa 0 9) := h_newa hex (t := 0) (by decide) rfl (tin 1 82 (by decide +kernel) rfl) (by decide +kernel : decode cX4_init 7 = .ok (.newarray .int, 2)) rfl
set_option maxRecDepth 100000 in
theorem s_8_9 (hC : SndC g HB l MM call) : Snd g HB l call cX4_init 2 yX4_init.cls yX4_init.name 9 (s_put 3 1 3 12) := h_putF (k := 1) (C := RX4) (T := TX4) (N := 5) (ci := 3) rfl (by decide) rfl rfl rfl (Or.inr ⟨_, rfl⟩) (tin 1 152 (by decide +kernel) rfl) (by decide +kernel : decode cX4_init 9 = .ok (.putfield 11, 3)) rfl
set_option maxRecDepth 100000 in
theorem s_8_12 (hC : SndC g HB l MM call) : Snd g HB l call cX4_init 2 yX4_init.cls yX4_init.name 12 (lf (q_load isR 0 13)) := lf_ok (p_aload_n (by decide +kernel : decode cX4_init 12 = .ok (.aload_n 0, 1)) rfl rfl)
set_option maxRecDepth 100000 in
theorem s_8_13 (hC : SndC g HB l MM call) : Snd g HB l call cX4_init 2 yX4_init.cls yX4_init.name 13 (lf (q_push (.inl 9) 15)) := lf_ok (p_bipush (by decide +kernel : decode cX4_init 13 = .ok (.bipush 9, 2)) (by decide +kernel) rfl)
set_option maxRecDepth 100000 in
theorem s_8_15 (hC : SndC g HB l MM call) (hex : HB.size = g.1) : Snd g HB l call cX4_init 2 yX4_init.cls yX4_init.name 15 (s_newa 0 17) := h_newa hex (t := 0) (by decide) rfl (tin 1 82 (by decide +kernel) rfl) (by decide +kernel : decode cX4_init 15 = .ok (.newarray .int, 2)) rfl
set_option maxRecDepth 100000 in
theorem s_8_17 (hC : SndC g HB l MM call) : Snd g HB l call cX4_init 2 yX4_init.cls yX4_init.name 17 (s_put 3 2 3 20) := h_putF (k := 2) (C := RX4) (T := TX4) (N := 5) (ci := 3) rfl (by decide) rfl rfl rfl (Or.inr ⟨_, rfl⟩) (tin 1 153 (by decide +kernel) rfl) (by decide +kernel : decode cX4_init 17 = .ok (.putfield 15, 3)) rfl
set_option maxRecDepth 100000 in
theorem s_8_20 (hC : SndC g HB l MM call) : Snd g HB l call cX4_init 2 yX4_init.cls yX4_init.name 20 (lf (q_load isR 0 21)) := lf_ok (p_aload_n (by decide +kernel : decode cX4_init 20 = .ok (.aload_n 0, 1)) rfl rfl)
set_option maxRecDepth 100000 in
theorem s_8_21 (hC : SndC g HB l MM call) : Snd g HB l call cX4_init 2 yX4_init.cls yX4_init.name 21 (lf (q_load isR 1 22)) := lf_ok (p_aload_n (by decide +kernel : decode cX4_init 21 = .ok (.aload_n 1, 1)) rfl rfl)
set_option maxRecDepth 100000 in
theorem s_8_22 (hC : SndC g HB l MM call) : Snd g HB l call cX4_init 2 yX4_init.cls yX4_init.name 22 (s_put 3 0 3 25) := h_putF (k := 0) (C := RX4) (T := TX4) (N := 5) (ci := 3) rfl (by decide) rfl rfl rfl (Or.inl ⟨_, rfl⟩) (tin 1 151 (by decide +kernel) rfl) (by decide +kernel : decode cX4_init 22 = .ok (.putfield 18, 3)) rfl
set_option maxRecDepth 100000 in
theorem ok_8 (hex : HB.size = g.1) (hC : SndC g HB l MM call) : ∀ x ∈ P_8, Snd g HB l call cX4_init 2 yX4_init.cls yX4_init.name x.1 x.2 := fa0 (s_8_0 hC) (fa0 (s_8_1 hC) (fa0 (s_8_4 hC) (fa0 (s_8_5 hC) (fa0 (s_8_7 hC hex) (fa0 (s_8_9 hC) (fa0 (s_8_12 hC) (fa0 (s_8_13 hC) (fa0 (s_8_15 hC hex) (fa0 (s_8_17 hC) (fa0 (s_8_20 hC) (fa0 (s_8_21 hC) (fa0 (s_8_22 hC) (fn0)))))))))))))
set_option maxRecDepth 100000 in
theorem ms_8 (hex : HB.size = g.1) : MSnd g HB l MM D_8 := ⟨by decide +kernel, fun _ hC => ok_8 hex hC, fa0 (show endOK cX4_init none 25 0 from ⟨rfl, (by decide +kernel : decode cX4_init 25 = .ok (.return_, 1))⟩) (fn0)⟩
set_option maxRecDepth 100000 in
theorem s_9_0 (hC : SndC g HB l MM call) : Snd g HB l call cX8_init 7 yX8_init.cls yX8_init.name 0 (lf (q_load isR 0 1)) := lf_ok (p_aload_n (by decide +kernel : decode cX8_init 0 = .ok (.aload_n 0, 1)) rfl rfl)
set_option maxRecDepth 100000 in
theorem s_9_1 (hC : SndC g HB l MM call) : Snd g HB l call cX8_init 7 yX8_init.cls yX8_init.name 1 (s_obj 4) := m_obj (tin 1 220 (by decide +kernel) rfl) (tin 1 38 (by decide +kernel) rfl) (tin 1 39 (by decide +kernel) rfl) (by decide +kernel : decode cX8_init 1 = .ok (.invokespecial 3, 3)) rfl
set_option maxRecDepth 100000 in
theorem s_9_4 (hC : SndC g HB l MM call) : Snd g HB l call cX8_init 7 yX8_init.cls yX8_init.name 4 (lf (q_load isR 0 5)) := lf_ok (p_aload_n (by decide +kernel : decode cX8_init 4 = .ok (.aload_n 0, 1)) rfl rfl)
set_option maxRecDepth 100000 in
theorem s_9_5 (hC : SndC g HB l MM call) : Snd g HB l call cX8_init 7 yX8_init.cls yX8_init.name 5 (lf (q_push (.inl 21) 7)) := lf_ok (p_bipush (by decide +kernel : decode cX8_init 5 = .ok (.bipush 21, 2)) (by decide +kernel) rfl)
set_option maxRecDepth 100000 in
theorem s_9_7 (hC : SndC g HB l MM call) (hex : HB.size = g.1) : Snd g HB l call cX8_init 7 yX8_init.cls yX8_init.name 7 (s_newa 3 9) := h_newa hex (t := 3) (by decide) rfl (tin 2 24 (by decide +kernel) rfl) (by decide +kernel : decode cX8_init 7 = .ok (.newarray .long, 2)) rfl
set_option maxRecDepth 100000 in
theorem s_9_9 (hC : SndC g HB l MM call) : Snd g HB l call cX8_init 7 yX8_init.cls yX8_init.name 9 (s_put 7 7 3 12) := h_putF (k := 7) (C := RX8) (T := TX8) (N := 17) (ci := 7) rfl (by decide) rfl rfl rfl (Or.inr ⟨_, rfl⟩) (tin 2 33 (by decide +kernel) rfl) (by decide +kernel : decode cX8_init 9 = .ok (.putfield 11, 3)) rfl
set_option maxRecDepth 100000 in
theorem s_9_12 (hC : SndC g HB l MM call) : Snd g HB l call cX8_init 7 yX8_init.cls yX8_init.name 12 (lf (q_load isR 0 13)) := lf_ok (p_aload_n (by decide +kernel : decode cX8_init 12 = .ok (.aload_n 0, 1)) rfl rfl)
set_option maxRecDepth 100000 in
theorem s_9_13 (hC : SndC g HB l MM call) : Snd g HB l call cX8_init 7 yX8_init.cls yX8_init.name 13 (lf (q_push (.inl 21) 15)) := lf_ok (p_bipush (by decide +kernel : decode cX8_init 13 = .ok (.bipush 21, 2)) (by decide +kernel) rfl)
set_option maxRecDepth 100000 in
theorem s_9_15 (hC : SndC g HB l MM call) (hex : HB.size = g.1) : Snd g HB l call cX8_init 7 yX8_init.cls yX8_init.name 15 (s_newa 3 17) := h_newa hex (t := 3) (by decide) rfl (tin 2 24 (by decide +kernel) rfl) (by decide +kernel : decode cX8_init 15 = .ok (.newarray .long, 2)) rfl
set_option maxRecDepth 100000 in
theorem s_9_17 (hC : SndC g HB l MM call) : Snd g HB l call cX8_init 7 yX8_init.cls yX8_init.name 17 (s_put 7 8 3 20) := h_putF (k := 8) (C := RX8) (T := TX8) (N := 17) (ci := 7) rfl (by decide) rfl rfl rfl (Or.inr ⟨_, rfl⟩) (tin 2 34 (by decide +kernel) rfl) (by decide +kernel : decode cX8_init 17 = .ok (.putfield 15, 3)) rfl
set_option maxRecDepth 100000 in
theorem s_9_20 (hC : SndC g HB l MM call) : Snd g HB l call cX8_init 7 yX8_init.cls yX8_init.name 20 (lf (q_load isR 0 21)) := lf_ok (p_aload_n (by decide +kernel : decode cX8_init 20 = .ok (.aload_n 0, 1)) rfl rfl)
set_option maxRecDepth 100000 in
theorem s_9_21 (hC : SndC g HB l MM call) : Snd g HB l call cX8_init 7 yX8_init.cls yX8_init.name 21 (lf (q_push (.inl 21) 23)) := lf_ok (p_bipush (by decide +kernel : decode cX8_init 21 = .ok (.bipush 21, 2)) (by decide +kernel) rfl)
set_option maxRecDepth 100000 in
theorem s_9_23 (hC : SndC g HB l MM call) (hex : HB.size = g.1) : Snd g HB l call cX8_init 7 yX8_init.cls yX8_init.name 23 (s_newa 2 25) := h_newa hex (t := 2) (by decide) rfl (tin 2 25 (by decide +kernel) rfl) (by decide +kernel : decode cX8_init 23 = .ok (.newarray .boolean, 2)) rfl
set_option maxRecDepth 100000 in
theorem s_9_25 (hC : SndC g HB l MM call) : Snd g HB l call cX8_init 7 yX8_init.cls yX8_init.name 25 (s_put 7 9 3 28) := h_putF (k := 9) (C := RX8) (T := TX8) (N := 17) (ci := 7) rfl (by decide) rfl rfl rfl (Or.inr ⟨_, rfl⟩) (tin 2 35 (by decide +kernel) rfl) (by decide +kernel : decode cX8_init 25 = .ok (.putfield 18, 3)) rfl
set_option maxRecDepth 100000 in
theorem s_9_28 (hC : SndC g HB l MM call) : Snd g HB l call cX8_init 7 yX8_init.cls yX8_init.name 28 (lf (q_load isR 0 29)) := lf_ok (p_aload_n (by decide +kernel : decode cX8_init 28 = .ok (.aload_n 0, 1)) rfl rfl)
set_option maxRecDepth 100000 in
theorem s_9_29 (hC : SndC g HB l MM call) : Snd g HB l call cX8_init 7 yX8_init.cls yX8_init.name 29 (lf (q_push (.inl 1200) 32)) := lf_ok (p_sipush (by decide +kernel : decode cX8_init 29 = .ok (.sipush 1200, 3)) (by decide +kernel) rfl)
set_option maxRecDepth 100000 in
theorem s_9_32 (hC : SndC g HB l MM call) (hex : HB.size = g.1) : Snd g HB l call cX8_init 7 yX8_init.cls yX8_init.name 32 (s_newa 0 34) := h_newa hex (t := 0) (by decide) rfl (tin 1 82 (by decide +kernel) rfl) (by decide +kernel : decode cX8_init 32 = .ok (.newarray .int, 2)) rfl
set_option maxRecDepth 100000 in
theorem s_9_34 (hC : SndC g HB l MM call) : Snd g HB l call cX8_init 7 yX8_init.cls yX8_init.name 34 (s_put 7 10 3 37) := h_putF (k := 10) (C := RX8) (T := TX8) (N := 17) (ci := 7) rfl (by decide) rfl rfl rfl (Or.inr ⟨_, rfl⟩) (tin 2 36 (by decide +kernel) rfl) (by decide +kernel : decode cX8_init 34 = .ok (.putfield 22, 3)) rfl
set_option maxRecDepth 100000 in
theorem s_9_37 (hC : SndC g HB l MM call) : Snd g HB l call cX8_init 7 yX8_init.cls yX8_init.name 37 (lf (q_load isR 0 38)) := lf_ok (p_aload_n (by decide +kernel : decode cX8_init 37 = .ok (.aload_n 0, 1)) rfl rfl)
set_option maxRecDepth 100000 in
theorem s_9_38 (hC : SndC g HB l MM call) (hex : HB.size = g.1) : Snd g HB l call cX8_init 7 yX8_init.cls yX8_init.name 38 (s_new 2 2 [.inr (.inr .null), .inl 0] 41) := h_new hex (C := RX1) (T := TX1) (N := 2) (ci := 2) rfl (by decide +kernel) (by decide +kernel) (tin 1 221 (by decide +kernel) rfl) (tin 1 41 (by decide +kernel) rfl) (tin 1 2 (by decide +kernel) rfl) (by decide +kernel : decode cX8_init 38 = .ok (.new 26, 3)) rfl
set_option maxRecDepth 100000 in
theorem s_9_41 (hC : SndC g HB l MM call) : Snd g HB l call cX8_init 7 yX8_init.cls yX8_init.name 41 (lf (q_dup 42)) := lf_ok (p_dup (by decide +kernel : decode cX8_init 41 = .ok (.dup, 1)) rfl)
set_option maxRecDepth 100000 in
theorem s_9_42 (hC : SndC g HB l MM call) : Snd g HB l call cX8_init 7 yX8_init.cls yX8_init.name 42 (lf (q_push (.inl 16) 44)) := lf_ok (p_bipush (by decide +kernel : decode cX8_init 42 = .ok (.bipush 16, 2)) (by decide +kernel) rfl)
set_option maxRecDepth 100000 in
theorem s_9_44 (hC : SndC g HB l MM call) : Snd g HB l call cX8_init 7 yX8_init.cls yX8_init.name 44 (s_cI 1 1 21 47) := c_I hC (M := MM) (id := 1) (d := D_1) rfl mok_1 rfl rfl rfl (tin 1 222 (by decide +kernel) rfl) (tin 1 43 (by decide +kernel) rfl) (tin 1 2 (by decide +kernel) rfl) (by decide +kernel : decode cX8_init 44 = .ok (.invokespecial 30, 3)) rfl
set_option maxRecDepth 100000 in
theorem s_9_47 (hC : SndC g HB l MM call) : Snd g HB l call cX8_init 7 yX8_init.cls yX8_init.name 47 (s_put 7 11 3 50) := h_putF (k := 11) (C := RX8) (T := TX8) (N := 17) (ci := 7) rfl (by decide) rfl rfl rfl (Or.inl ⟨_, rfl⟩) (tin 2 37 (by decide +kernel) rfl) (by decide +kernel : decode cX8_init 47 = .ok (.putfield 33, 3)) rfl
set_option maxRecDepth 100000 in
theorem s_9_50 (hC : SndC g HB l MM call) : Snd g HB l call cX8_init 7 yX8_init.cls yX8_init.name 50 (lf (q_load isR 0 51)) := lf_ok (p_aload_n (by decide +kernel : decode cX8_init 50 = .ok (.aload_n 0, 1)) rfl rfl)
set_option maxRecDepth 100000 in
theorem s_9_51 (hC : SndC g HB l MM call) : Snd g HB l call cX8_init 7 yX8_init.cls yX8_init.name 51 (lf (q_load isR 1 52)) := lf_ok (p_aload_n (by decide +kernel : decode cX8_init 51 = .ok (.aload_n 1, 1)) rfl rfl)
set_option maxRecDepth 100000 in
theorem s_9_52 (hC : SndC g HB l MM call) : Snd g HB l call cX8_init 7 yX8_init.cls yX8_init.name 52 (s_put 7 0 3 55) := h_putF (k := 0) (C := RX8) (T := TX8) (N := 17) (ci := 7) rfl (by decide) rfl rfl rfl (Or.inl ⟨_, rfl⟩) (tin 2 26 (by decide +kernel) rfl) (by decide +kernel : decode cX8_init 52 = .ok (.putfield 37, 3)) rfl
set_option maxRecDepth 100000 in
theorem s_9_55 (hC : SndC g HB l MM call) : Snd g HB l call cX8_init 7 yX8_init.cls yX8_init.name 55 (lf (q_load isR 0 56)) := lf_ok (p_aload_n (by decide +kernel : decode cX8_init 55 = .ok (.aload_n 0, 1)) rfl rfl)
set_option maxRecDepth 100000 in
theorem s_9_56 (hC : SndC g HB l MM call) : Snd g HB l call cX8_init 7 yX8_init.cls yX8_init.name 56 (lf (q_load isR 2 57)) := lf_ok (p_aload_n (by decide +kernel : decode cX8_init 56 = .ok (.aload_n 2, 1)) rfl rfl)
set_option maxRecDepth 100000 in
theorem s_9_57 (hC : SndC g HB l MM call) : Snd g HB l call cX8_init 7 yX8_init.cls yX8_init.name 57 (s_put 7 1 3 60) := h_putF (k := 1) (C := RX8) (T := TX8) (N := 17) (ci := 7) rfl (by decide) rfl rfl rfl (Or.inl ⟨_, rfl⟩) (tin 2 27 (by decide +kernel) rfl) (by decide +kernel : decode cX8_init 57 = .ok (.putfield 40, 3)) rfl
set_option maxRecDepth 100000 in
theorem s_9_60 (hC : SndC g HB l MM call) : Snd g HB l call cX8_init 7 yX8_init.cls yX8_init.name 60 (lf (q_load isR 0 61)) := lf_ok (p_aload_n (by decide +kernel : decode cX8_init 60 = .ok (.aload_n 0, 1)) rfl rfl)
set_option maxRecDepth 100000 in
theorem s_9_61 (hC : SndC g HB l MM call) : Snd g HB l call cX8_init 7 yX8_init.cls yX8_init.name 61 (lf (q_load isR 3 62)) := lf_ok (p_aload_n (by decide +kernel : decode cX8_init 61 = .ok (.aload_n 3, 1)) rfl rfl)
set_option maxRecDepth 100000 in
theorem s_9_62 (hC : SndC g HB l MM call) : Snd g HB l call cX8_init 7 yX8_init.cls yX8_init.name 62 (s_put 7 2 3 65) := h_putF (k := 2) (C := RX8) (T := TX8) (N := 17) (ci := 7) rfl (by decide) rfl rfl rfl (Or.inl ⟨_, rfl⟩) (tin 2 28 (by decide +kernel) rfl) (by decide +kernel : decode cX8_init 62 = .ok (.putfield 44, 3)) rfl
set_option maxRecDepth 100000 in
theorem s_9_65 (hC : SndC g HB l MM call) : Snd g HB l call cX8_init 7 yX8_init.cls yX8_init.name 65 (lf (q_load isR 0 66)) := lf_ok (p_aload_n (by decide +kernel : decode cX8_init 65 = .ok (.aload_n 0, 1)) rfl rfl)
set_option maxRecDepth 100000 in
theorem s_9_66 (hC : SndC g HB l MM call) : Snd g HB l call cX8_init 7 yX8_init.cls yX8_init.name 66 (lf (q_load isR 4 68)) := lf_ok (p_aload (by decide +kernel : decode cX8_init 66 = .ok (.aload 4, 2)) rfl)
set_option maxRecDepth 100000 in
theorem s_9_68 (hC : SndC g HB l MM call) : Snd g HB l call cX8_init 7 yX8_init.cls yX8_init.name 68 (s_put 7 3 3 71) := h_putF (k := 3) (C := RX8) (T := TX8) (N := 17) (ci := 7) rfl (by decide) rfl rfl rfl (Or.inl ⟨_, rfl⟩) (tin 2 29 (by decide +kernel) rfl) (by decide +kernel : decode cX8_init 68 = .ok (.putfield 48, 3)) rfl
set_option maxRecDepth 100000 in
theorem s_9_71 (hC : SndC g HB l MM call) : Snd g HB l call cX8_init 7 yX8_init.cls yX8_init.name 71 (lf (q_load isR 0 72)) := lf_ok (p_aload_n (by decide +kernel : decode cX8_init 71 = .ok (.aload_n 0, 1)) rfl rfl)
set_option maxRecDepth 100000 in
theorem s_9_72 (hC : SndC g HB l MM call) : Snd g HB l call cX8_init 7 yX8_init.cls yX8_init.name 72 (lf (q_load isR 5 74)) := lf_ok (p_aload (by decide +kernel : decode cX8_init 72 = .ok (.aload 5, 2)) rfl)
set_option maxRecDepth 100000 in
theorem s_9_74 (hC : SndC g HB l MM call) : Snd g HB l call cX8_init 7 yX8_init.cls yX8_init.name 74 (s_put 7 4 3 77) := h_putF (k := 4) (C := RX8) (T := TX8) (N := 17) (ci := 7) rfl (by decide) rfl rfl rfl (Or.inl ⟨_, rfl⟩) (tin 2 30 (by decide +kernel) rfl) (by decide +kernel : decode cX8_init 74 = .ok (.putfield 52, 3)) rfl
set_option maxRecDepth 100000 in
theorem s_9_77 (hC : SndC g HB l MM call) : Snd g HB l call cX8_init 7 yX8_init.cls yX8_init.name 77 (lf (q_load isR 0 78)) := lf_ok (p_aload_n (by decide +kernel : decode cX8_init 77 = .ok (.aload_n 0, 1)) rfl rfl)
set_option maxRecDepth 100000 in
theorem s_9_78 (hC : SndC g HB l MM call) : Snd g HB l call cX8_init 7 yX8_init.cls yX8_init.name 78 (lf (q_load isR 6 80)) := lf_ok (p_aload (by decide +kernel : decode cX8_init 78 = .ok (.aload 6, 2)) rfl)
set_option maxRecDepth 100000 in
theorem s_9_80 (hC : SndC g HB l MM call) : Snd g HB l call cX8_init 7 yX8_init.cls yX8_init.name 80 (s_put 7 5 3 83) := h_putF (k := 5) (C := RX8) (T := TX8) (N := 17) (ci := 7) rfl (by decide) rfl rfl rfl (Or.inl ⟨_, rfl⟩) (tin 2 31 (by decide +kernel) rfl) (by decide +kernel : decode cX8_init 80 = .ok (.putfield 55, 3)) rfl
set_option maxRecDepth 100000 in
theorem s_9_83 (hC : SndC g HB l MM call) : Snd g HB l call cX8_init 7 yX8_init.cls yX8_init.name 83 (lf (q_load isR 0 84)) := lf_ok (p_aload_n (by decide +kernel : decode cX8_init 83 = .ok (.aload_n 0, 1)) rfl rfl)
set_option maxRecDepth 100000 in
theorem s_9_84 (hC : SndC g HB l MM call) (hex : HB.size = g.1) : Snd g HB l call cX8_init 7 yX8_init.cls yX8_init.name 84 (s_new 4 9 [.inr (.inr .null), .inl 0, .inl 0, .inl 0, .inl 0, .inl 0, .inl 0, .inl 0, .inl 0] 87) := h_new hex (C := RX5) (T := TX5) (N := 9) (ci := 4) rfl (by decide +kernel) (by decide +kernel) (tin 1 223 (by decide +kernel) rfl) (tin 1 224 (by decide +kernel) rfl) (tin 1 11 (by decide +kernel) rfl) (by decide +kernel : decode cX8_init 84 = .ok (.new 58, 3)) rfl
set_option maxRecDepth 100000 in
theorem s_9_87 (hC : SndC g HB l MM call) : Snd g HB l call cX8_init 7 yX8_init.cls yX8_init.name 87 (lf (q_dup 88)) := lf_ok (p_dup (by decide +kernel : decode cX8_init 87 = .ok (.dup, 1)) rfl)
set_option maxRecDepth 100000 in
theorem s_9_88 (hC : SndC g HB l MM call) : Snd g HB l call cX8_init 7 yX8_init.cls yX8_init.name 88 (lf (q_load isR 1 89)) := lf_ok (p_aload_n (by decide +kernel : decode cX8_init 88 = .ok (.aload_n 1, 1)) rfl rfl)
set_option maxRecDepth 100000 in
theorem s_9_89 (hC : SndC g HB l MM call) : Snd g HB l call cX8_init 7 yX8_init.cls yX8_init.name 89 (s_cI 10 1 21 92) := c_I hC (M := MM) (id := 10) (d := D_10) rfl mok_10 rfl rfl rfl (tin 1 225 (by decide +kernel) rfl) (tin 1 226 (by decide +kernel) rfl) (tin 1 11 (by decide +kernel) rfl) (by decide +kernel : decode cX8_init 89 = .ok (.invokespecial 60, 3)) rfl
set_option maxRecDepth 100000 in
theorem s_9_92 (hC : SndC g HB l MM call) : Snd g HB l call cX8_init 7 yX8_init.cls yX8_init.name 92 (s_put 7 6 3 95) := h_putF (k := 6) (C := RX8) (T := TX8) (N := 17) (ci := 7) rfl (by decide) rfl rfl rfl (Or.inl ⟨_, rfl⟩) (tin 2 32 (by decide +kernel) rfl) (by decide +kernel : decode cX8_init 92 = .ok (.putfield 63, 3)) rfl
set_option maxRecDepth 100000 in
theorem ok_9 (hex : HB.size = g.1) (hC : SndC g HB l MM call) : ∀ x ∈ P_9, Snd g HB l call cX8_init 7 yX8_init.cls yX8_init.name x.1 x.2 := fa0 (s_9_0 hC) (fa0 (s_9_1 hC) (fa0 (s_9_4 hC) (fa0 (s_9_5 hC) (fa0 (s_9_7 hC hex) (fa0 (s_9_9 hC) (fa0 (s_9_12 hC) (fa0 (s_9_13 hC) (fa0 (s_9_15 hC hex) (fa0 (s_9_17 hC) (fa0 (s_9_20 hC) (fa0 (s_9_21 hC) (fa0 (s_9_23 hC hex) (fa0 (s_9_25 hC) (fa0 (s_9_28 hC) (fa0 (s_9_29 hC) (fa0 (s_9_32 hC hex) (fa0 (s_9_34 hC) (fa0 (s_9_37 hC) (fa0 (s_9_38 hC hex) (fa0 (s_9_41 hC) (fa0 (s_9_42 hC) (fa0 (s_9_44 hC) (fa0 (s_9_47 hC) (fa0 (s_9_50 hC) (fa0 (s_9_51 hC) (fa0 (s_9_52 hC) (fa0 (s_9_55 hC) (fa0 (s_9_56 hC) (fa0 (s_9_57 hC) (fa0 (s_9_60 hC) (fa0 (s_9_61 hC) (fa0 (s_9_62 hC) (fa0 (s_9_65 hC) (fa0 (s_9_66 hC) (fa0 (s_9_68 hC) (fa0 (s_9_71 hC) (fa0 (s_9_72 hC) (fa0 (s_9_74 hC) (fa0 (s_9_77 hC) (fa0 (s_9_78 hC) (fa0 (s_9_80 hC) (fa0 (s_9_83 hC) (fa0 (s_9_84 hC hex) (fa0 (s_9_87 hC) (fa0 (s_9_88 hC) (fa0 (s_9_89 hC) (fa0 (s_9_92 hC) (fn0))))))))))))))))))))))))))))))))))))))))))))))))
set_option maxRecDepth 100000 in
theorem ms_9 (hex : HB.size = g.1) : MSnd g HB l MM D_9 := ⟨by decide +kernel, fun _ hC => ok_9 hex hC, fa0 (show endOK cX8_init none 95 0 from ⟨rfl, (by decide +kernel : decode cX8_init 95 = .ok (.return_, 1))⟩) (fn0)⟩
set_option maxRecDepth 100000 in
theorem s_10_0 (hC : SndC g HB l MM call) : Snd g HB l call cX5_init 2 yX5_init.cls yX5_init.name 0 (lf (q_load isR 0 1)) := lf_ok (p_aload_n (by decide +kernel : decode cX5_init 0 = .ok (.aload_n 0, 1)) rfl rfl)
set_option maxRecDepth 100000 in
theorem s_10_1 (hC : SndC g HB l MM call) : Snd g HB l call cX5_init 2 yX5_init.cls yX5_init.name 1 (s_obj 4) := m_obj (tin 1 228 (by decide +kernel) rfl) (tin 1 38 (by decide +kernel) rfl) (tin 1 39 (by decide +kernel) rfl) (by decide +kernel : decode cX5_init 1 = .ok (.invokespecial 3, 3)) rfl
set_option maxRecDepth 100000 in
theorem s_10_4 (hC : SndC g HB l MM call) : Snd g HB l call cX5_init 2 yX5_init.cls yX5_init.name 4 (lf (q_load isR 0 5)) := lf_ok (p_aload_n (by decide +kernel : decode cX5_init 4 = .ok (.aload_n 0, 1)) rfl rfl)
set_option maxRecDepth 100000 in
theorem s_10_5 (hC : SndC g HB l MM call) : Snd g HB l call cX5_init 2 yX5_init.cls yX5_init.name 5 (lf (q_load isR 1 6)) := lf_ok (p_aload_n (by decide +kernel : decode cX5_init 5 = .ok (.aload_n 1, 1)) rfl rfl)
set_option maxRecDepth 100000 in
theorem s_10_6 (hC : SndC g HB l MM call) : Snd g HB l call cX5_init 2 yX5_init.cls yX5_init.name 6 (s_put 4 0 3 9) := h_putF (k := 0) (C := RX5) (T := TX5) (N := 9) (ci := 4) rfl (by decide) rfl rfl rfl (Or.inl ⟨_, rfl⟩) (tin 1 229 (by decide +kernel) rfl) (by decide +kernel : decode cX5_init 6 = .ok (.putfield 9, 3)) rfl
set_option maxRecDepth 100000 in
theorem ok_10 (hex : HB.size = g.1) (hC : SndC g HB l MM call) : ∀ x ∈ P_10, Snd g HB l call cX5_init 2 yX5_init.cls yX5_init.name x.1 x.2 := fa0 (s_10_0 hC) (fa0 (s_10_1 hC) (fa0 (s_10_4 hC) (fa0 (s_10_5 hC) (fa0 (s_10_6 hC) (fn0)))))
set_option maxRecDepth 100000 in
theorem ms_10 (hex : HB.size = g.1) : MSnd g HB l MM D_10 := ⟨by decide +kernel, fun _ hC => ok_10 hex hC, fa0 (show endOK cX5_init none 9 0 from ⟨rfl, (by decide +kernel : decode cX5_init 9 = .ok (.return_, 1))⟩) (fn0)⟩
set_option maxRecDepth 100000 in
theorem s_11_0 (hC : SndC g HB l MM call) : Snd g HB l call cX11_makeReady 6 yX11_makeReady.cls yX11_makeReady.name 0 (lf (q_load isR 0 1)) := lf_ok (p_aload_n (by decide +kernel : decode cX11_makeReady 0 = .ok (.aload_n 0, 1)) rfl rfl)
set_option maxRecDepth 100000 in
theorem s_11_1 (hC : SndC g HB l MM call) : Snd g HB l call cX11_makeReady 6 yX11_makeReady.cls yX11_makeReady.name 1 (s_get 9 0 4) := h_get (k := 0) (C := RX11) (T := TX11) (N := 17) (ci := 9) rfl (by decide) (tin 2 95 (by decide +kernel) rfl)  (by decide +kernel : decode cX11_makeReady 1 = .ok (.getfield 14, 3)) rfl
set_option maxRecDepth 100000 in
theorem s_11_4 (hC : SndC g HB l MM call) : Snd g HB l call cX11_makeReady 6 yX11_makeReady.cls yX11_makeReady.name 4 (s_cV 2 12 0 20 7) := c_V (C := RX1) (T := TX1) (N := 2) (ci := 2) rfl hC (M := MM) (id := 12) (d := D_12) rfl mok_12 rfl rfl (tin 2 83 (by decide +kernel) rfl) (tin 2 84 (by decide +kernel) rfl) (tin 2 85 (by decide +kernel) rfl) (tin 1 2 (by decide +kernel) rfl) (by decide +kernel : decode cX11_makeReady 4 = .ok (.invokevirtual 113, 3)) rfl
set_option maxRecDepth 100000 in
theorem s_11_7 (hC : SndC g HB l MM call) : Snd g HB l call cX11_makeReady 6 yX11_makeReady.cls yX11_makeReady.name 7 (lf (q_load isR 0 8)) := lf_ok (p_aload_n (by decide +kernel : decode cX11_makeReady 7 = .ok (.aload_n 0, 1)) rfl rfl)
set_option maxRecDepth 100000 in
theorem s_11_8 (hC : SndC g HB l MM call) : Snd g HB l call cX11_makeReady 6 yX11_makeReady.cls yX11_makeReady.name 8 (s_get 9 0 11) := h_get (k := 0) (C := RX11) (T := TX11) (N := 17) (ci := 9) rfl (by decide) (tin 2 95 (by decide +kernel) rfl)  (by decide +kernel : decode cX11_makeReady 8 = .ok (.getfield 14, 3)) rfl
set_option maxRecDepth 100000 in
theorem s_11_11 (hC : SndC g HB l MM call) : Snd g HB l call cX11_makeReady 6 yX11_makeReady.cls yX11_makeReady.name 11 (lf (q_load isI 1 12)) := lf_ok (p_iload_n (by decide +kernel : decode cX11_makeReady 11 = .ok (.iload_n 1, 1)) rfl rfl)
set_option maxRecDepth 100000 in
theorem s_11_12 (hC : SndC g HB l MM call) : Snd g HB l call cX11_makeReady 6 yX11_makeReady.cls yX11_makeReady.name 12 (s_cV 2 13 1 21 15) := c_V (C := RX1) (T := TX1) (N := 2) (ci := 2) rfl hC (M := MM) (id := 13) (d := D_13) rfl mok_13 rfl rfl (tin 2 87 (by decide +kernel) rfl) (tin 2 88 (by decide +kernel) rfl) (tin 2 89 (by decide +kernel) rfl) (tin 1 2 (by decide +kernel) rfl) (by decide +kernel : decode cX11_makeReady 12 = .ok (.invokevirtual 243, 3)) rfl
set_option maxRecDepth 100000 in
theorem s_11_15 (hC : SndC g HB l MM call) : Snd g HB l call cX11_makeReady 6 yX11_makeReady.cls yX11_makeReady.name 15 (lf (q_load isR 0 16)) := lf_ok (p_aload_n (by decide +kernel : decode cX11_makeReady 15 = .ok (.aload_n 0, 1)) rfl rfl)
set_option maxRecDepth 100000 in
theorem s_11_16 (hC : SndC g HB l MM call) : Snd g HB l call cX11_makeReady 6 yX11_makeReady.cls yX11_makeReady.name 16 (s_get 9 0 19) := h_get (k := 0) (C := RX11) (T := TX11) (N := 17) (ci := 9) rfl (by decide) (tin 2 95 (by decide +kernel) rfl)  (by decide +kernel : decode cX11_makeReady 16 = .ok (.getfield 14, 3)) rfl
set_option maxRecDepth 100000 in
theorem s_11_19 (hC : SndC g HB l MM call) : Snd g HB l call cX11_makeReady 6 yX11_makeReady.cls yX11_makeReady.name 19 (lf (q_load isI 2 20)) := lf_ok (p_iload_n (by decide +kernel : decode cX11_makeReady 19 = .ok (.iload_n 2, 1)) rfl rfl)
set_option maxRecDepth 100000 in
theorem s_11_20 (hC : SndC g HB l MM call) : Snd g HB l call cX11_makeReady 6 yX11_makeReady.cls yX11_makeReady.name 20 (s_cV 2 13 1 21 23) := c_V (C := RX1) (T := TX1) (N := 2) (ci := 2) rfl hC (M := MM) (id := 13) (d := D_13) rfl mok_13 rfl rfl (tin 2 87 (by decide +kernel) rfl) (tin 2 88 (by decide +kernel) rfl) (tin 2 89 (by decide +kernel) rfl) (tin 1 2 (by decide +kernel) rfl) (by decide +kernel : decode cX11_makeReady 20 = .ok (.invokevirtual 243, 3)) rfl
set_option maxRecDepth 100000 in
theorem s_11_23 (hC : SndC g HB l MM call) : Snd g HB l call cX11_makeReady 6 yX11_makeReady.cls yX11_makeReady.name 23 (lf (q_load isR 0 24)) := lf_ok (p_aload_n (by decide +kernel : decode cX11_makeReady 23 = .ok (.aload_n 0, 1)) rfl rfl)
set_option maxRecDepth 100000 in
theorem s_11_24 (hC : SndC g HB l MM call) : Snd g HB l call cX11_makeReady 6 yX11_makeReady.cls yX11_makeReady.name 24 (s_get 9 0 27) := h_get (k := 0) (C := RX11) (T := TX11) (N := 17) (ci := 9) rfl (by decide) (tin 2 95 (by decide +kernel) rfl)  (by decide +kernel : decode cX11_makeReady 24 = .ok (.getfield 14, 3)) rfl
set_option maxRecDepth 100000 in
theorem s_11_27 (hC : SndC g HB l MM call) : Snd g HB l call cX11_makeReady 6 yX11_makeReady.cls yX11_makeReady.name 27 (lf (q_load isI 3 28)) := lf_ok (p_iload_n (by decide +kernel : decode cX11_makeReady 27 = .ok (.iload_n 3, 1)) rfl rfl)
set_option maxRecDepth 100000 in
theorem s_11_28 (hC : SndC g HB l MM call) : Snd g HB l call cX11_makeReady 6 yX11_makeReady.cls yX11_makeReady.name 28 (s_cV 2 13 1 21 31) := c_V (C := RX1) (T := TX1) (N := 2) (ci := 2) rfl hC (M := MM) (id := 13) (d := D_13) rfl mok_13 rfl rfl (tin 2 87 (by decide +kernel) rfl) (tin 2 88 (by decide +kernel) rfl) (tin 2 89 (by decide +kernel) rfl) (tin 1 2 (by decide +kernel) rfl) (by decide +kernel : decode cX11_makeReady 28 = .ok (.invokevirtual 243, 3)) rfl
set_option maxRecDepth 100000 in
theorem s_11_31 (hC : SndC g HB l MM call) : Snd g HB l call cX11_makeReady 6 yX11_makeReady.cls yX11_makeReady.name 31 (lf (q_load isR 0 32)) := lf_ok (p_aload_n (by decide +kernel : decode cX11_makeReady 31 = .ok (.aload_n 0, 1)) rfl rfl)
set_option maxRecDepth 100000 in
theorem s_11_32 (hC : SndC g HB l MM call) : Snd g HB l call cX11_makeReady 6 yX11_makeReady.cls yX11_makeReady.name 32 (s_get 9 0 35) := h_get (k := 0) (C := RX11) (T := TX11) (N := 17) (ci := 9) rfl (by decide) (tin 2 95 (by decide +kernel) rfl)  (by decide +kernel : decode cX11_makeReady 32 = .ok (.getfield 14, 3)) rfl
set_option maxRecDepth 100000 in
theorem s_11_35 (hC : SndC g HB l MM call) : Snd g HB l call cX11_makeReady 6 yX11_makeReady.cls yX11_makeReady.name 35 (lf (q_load isI 4 37)) := lf_ok (p_iload (by decide +kernel : decode cX11_makeReady 35 = .ok (.iload 4, 2)) rfl)
set_option maxRecDepth 100000 in
theorem s_11_37 (hC : SndC g HB l MM call) : Snd g HB l call cX11_makeReady 6 yX11_makeReady.cls yX11_makeReady.name 37 (s_cV 2 13 1 21 40) := c_V (C := RX1) (T := TX1) (N := 2) (ci := 2) rfl hC (M := MM) (id := 13) (d := D_13) rfl mok_13 rfl rfl (tin 2 87 (by decide +kernel) rfl) (tin 2 88 (by decide +kernel) rfl) (tin 2 89 (by decide +kernel) rfl) (tin 1 2 (by decide +kernel) rfl) (by decide +kernel : decode cX11_makeReady 37 = .ok (.invokevirtual 243, 3)) rfl
set_option maxRecDepth 100000 in
theorem s_11_40 (hC : SndC g HB l MM call) : Snd g HB l call cX11_makeReady 6 yX11_makeReady.cls yX11_makeReady.name 40 (lf (q_load isR 0 41)) := lf_ok (p_aload_n (by decide +kernel : decode cX11_makeReady 40 = .ok (.aload_n 0, 1)) rfl rfl)
set_option maxRecDepth 100000 in
theorem s_11_41 (hC : SndC g HB l MM call) : Snd g HB l call cX11_makeReady 6 yX11_makeReady.cls yX11_makeReady.name 41 (s_get 9 0 44) := h_get (k := 0) (C := RX11) (T := TX11) (N := 17) (ci := 9) rfl (by decide) (tin 2 95 (by decide +kernel) rfl)  (by decide +kernel : decode cX11_makeReady 41 = .ok (.getfield 14, 3)) rfl
set_option maxRecDepth 100000 in
theorem s_11_44 (hC : SndC g HB l MM call) : Snd g HB l call cX11_makeReady 6 yX11_makeReady.cls yX11_makeReady.name 44 (lf (q_load isI 5 46)) := lf_ok (p_iload (by decide +kernel : decode cX11_makeReady 44 = .ok (.iload 5, 2)) rfl)
set_option maxRecDepth 100000 in
theorem s_11_46 (hC : SndC g HB l MM call) : Snd g HB l call cX11_makeReady 6 yX11_makeReady.cls yX11_makeReady.name 46 (s_cV 2 13 1 21 49) := c_V (C := RX1) (T := TX1) (N := 2) (ci := 2) rfl hC (M := MM) (id := 13) (d := D_13) rfl mok_13 rfl rfl (tin 2 87 (by decide +kernel) rfl) (tin 2 88 (by decide +kernel) rfl) (tin 2 89 (by decide +kernel) rfl) (tin 1 2 (by decide +kernel) rfl) (by decide +kernel : decode cX11_makeReady 46 = .ok (.invokevirtual 243, 3)) rfl
set_option maxRecDepth 100000 in
theorem ok_11 (hex : HB.size = g.1) (hC : SndC g HB l MM call) : ∀ x ∈ P_11, Snd g HB l call cX11_makeReady 6 yX11_makeReady.cls yX11_makeReady.name x.1 x.2 := fa0 (s_11_0 hC) (fa0 (s_11_1 hC) (fa0 (s_11_4 hC) (fa0 (s_11_7 hC) (fa0 (s_11_8 hC) (fa0 (s_11_11 hC) (fa0 (s_11_12 hC) (fa0 (s_11_15 hC) (fa0 (s_11_16 hC) (fa0 (s_11_19 hC) (fa0 (s_11_20 hC) (fa0 (s_11_23 hC) (fa0 (s_11_24 hC) (fa0 (s_11_27 hC) (fa0 (s_11_28 hC) (fa0 (s_11_31 hC) (fa0 (s_11_32 hC) (fa0 (s_11_35 hC) (fa0 (s_11_37 hC) (fa0 (s_11_40 hC) (fa0 (s_11_41 hC) (fa0 (s_11_44 hC) (fa0 (s_11_46 hC) (fn0)))))))))))))))))))))))
set_option maxRecDepth 100000 in
theorem ms_11 (hex : HB.size = g.1) : MSnd g HB l MM D_11 := ⟨by decide +kernel, fun _ hC => ok_11 hex hC, fa0 (show endOK cX11_makeReady none 49 0 from ⟨rfl, (by decide +kernel : decode cX11_makeReady 49 = .ok (.return_, 1))⟩) (fn0)⟩
set_option maxRecDepth 100000 in
theorem s_12_0 (hC : SndC g HB l MM call) : Snd g HB l call cX1_clear 1 yX1_clear.cls yX1_clear.name 0 (lf (q_load isR 0 1)) := lf_ok (p_aload_n (by decide +kernel : decode cX1_clear 0 = .ok (.aload_n 0, 1)) rfl rfl)
set_option maxRecDepth 100000 in
theorem s_12_1 (hC : SndC g HB l MM call) : Snd g HB l call cX1_clear 1 yX1_clear.cls yX1_clear.name 1 (lf (q_push (.inl 0) 2)) := lf_ok (p_iconst (by decide +kernel : decode cX1_clear 1 = .ok (.iconst 0, 1)) (by decide +kernel) rfl)
set_option maxRecDepth 100000 in
theorem s_12_2 (hC : SndC g HB l MM call) : Snd g HB l call cX1_clear 1 yX1_clear.cls yX1_clear.name 2 (s_put 2 1 0 5) := h_put (k := 1) (C := RX1) (T := TX1) (N := 2) (ci := 2) rfl (by decide) rfl rfl (tin 1 47 (by decide +kernel) rfl)  (by decide +kernel : decode cX1_clear 2 = .ok (.putfield 15, 3)) rfl
set_option maxRecDepth 100000 in
theorem ok_12 (hex : HB.size = g.1) (hC : SndC g HB l MM call) : ∀ x ∈ P_12, Snd g HB l call cX1_clear 1 yX1_clear.cls yX1_clear.name x.1 x.2 := fa0 (s_12_0 hC) (fa0 (s_12_1 hC) (fa0 (s_12_2 hC) (fn0)))
set_option maxRecDepth 100000 in
theorem ms_12 (hex : HB.size = g.1) : MSnd g HB l MM D_12 := ⟨by decide +kernel, fun _ hC => ok_12 hex hC, fa0 (show endOK cX1_clear none 5 0 from ⟨rfl, (by decide +kernel : decode cX1_clear 5 = .ok (.return_, 1))⟩) (fn0)⟩
set_option maxRecDepth 100000 in
theorem s_13_0 (hC : SndC g HB l MM call) : Snd g HB l call cX1_putNumber 2 yX1_putNumber.cls yX1_putNumber.name 0 (lf (q_load isR 0 1)) := lf_ok (p_aload_n (by decide +kernel : decode cX1_putNumber 0 = .ok (.aload_n 0, 1)) rfl rfl)
set_option maxRecDepth 100000 in
theorem s_13_1 (hC : SndC g HB l MM call) : Snd g HB l call cX1_putNumber 2 yX1_putNumber.cls yX1_putNumber.name 1 (lf (q_load isI 1 2)) := lf_ok (p_iload_n (by decide +kernel : decode cX1_putNumber 1 = .ok (.iload_n 1, 1)) rfl rfl)
set_option maxRecDepth 100000 in
theorem s_13_2 (hC : SndC g HB l MM call) : Snd g HB l call cX1_putNumber 2 yX1_putNumber.cls yX1_putNumber.name 2 (lf (q_push (.inl 24) 4)) := lf_ok (p_bipush (by decide +kernel : decode cX1_putNumber 2 = .ok (.bipush 24, 2)) (by decide +kernel) rfl)
set_option maxRecDepth 100000 in
theorem s_13_4 (hC : SndC g HB l MM call) : Snd g HB l call cX1_putNumber 2 yX1_putNumber.cls yX1_putNumber.name 4 (lf (q_bin shrA 5)) := lf_ok (p_ishr (by decide +kernel : decode cX1_putNumber 4 = .ok (.ishr, 1)) rfl)
set_option maxRecDepth 100000 in
theorem s_13_5 (hC : SndC g HB l MM call) : Snd g HB l call cX1_putNumber 2 yX1_putNumber.cls yX1_putNumber.name 5 (s_cV 2 14 1 21 8) := c_V (C := RX1) (T := TX1) (N := 2) (ci := 2) rfl hC (M := MM) (id := 14) (d := D_14) rfl mok_14 rfl rfl (tin 2 91 (by decide +kernel) rfl) (tin 2 92 (by decide +kernel) rfl) (tin 2 93 (by decide +kernel) rfl) (tin 1 2 (by decide +kernel) rfl) (by decide +kernel : decode cX1_putNumber 5 = .ok (.invokevirtual 19, 3)) rfl
set_option maxRecDepth 100000 in
theorem s_13_8 (hC : SndC g HB l MM call) : Snd g HB l call cX1_putNumber 2 yX1_putNumber.cls yX1_putNumber.name 8 (lf (q_load isR 0 9)) := lf_ok (p_aload_n (by decide +kernel : decode cX1_putNumber 8 = .ok (.aload_n 0, 1)) rfl rfl)
set_option maxRecDepth 100000 in
theorem s_13_9 (hC : SndC g HB l MM call) : Snd g HB l call cX1_putNumber 2 yX1_putNumber.cls yX1_putNumber.name 9 (lf (q_load isI 1 10)) := lf_ok (p_iload_n (by decide +kernel : decode cX1_putNumber 9 = .ok (.iload_n 1, 1)) rfl rfl)
set_option maxRecDepth 100000 in
theorem s_13_10 (hC : SndC g HB l MM call) : Snd g HB l call cX1_putNumber 2 yX1_putNumber.cls yX1_putNumber.name 10 (lf (q_push (.inl 16) 12)) := lf_ok (p_bipush (by decide +kernel : decode cX1_putNumber 10 = .ok (.bipush 16, 2)) (by decide +kernel) rfl)
set_option maxRecDepth 100000 in
theorem s_13_12 (hC : SndC g HB l MM call) : Snd g HB l call cX1_putNumber 2 yX1_putNumber.cls yX1_putNumber.name 12 (lf (q_bin shrA 13)) := lf_ok (p_ishr (by decide +kernel : decode cX1_putNumber 12 = .ok (.ishr, 1)) rfl)
set_option maxRecDepth 100000 in
theorem s_13_13 (hC : SndC g HB l MM call) : Snd g HB l call cX1_putNumber 2 yX1_putNumber.cls yX1_putNumber.name 13 (s_cV 2 14 1 21 16) := c_V (C := RX1) (T := TX1) (N := 2) (ci := 2) rfl hC (M := MM) (id := 14) (d := D_14) rfl mok_14 rfl rfl (tin 2 91 (by decide +kernel) rfl) (tin 2 92 (by decide +kernel) rfl) (tin 2 93 (by decide +kernel) rfl) (tin 1 2 (by decide +kernel) rfl) (by decide +kernel : decode cX1_putNumber 13 = .ok (.invokevirtual 19, 3)) rfl
set_option maxRecDepth 100000 in
theorem s_13_16 (hC : SndC g HB l MM call) : Snd g HB l call cX1_putNumber 2 yX1_putNumber.cls yX1_putNumber.name 16 (lf (q_load isR 0 17)) := lf_ok (p_aload_n (by decide +kernel : decode cX1_putNumber 16 = .ok (.aload_n 0, 1)) rfl rfl)
set_option maxRecDepth 100000 in
theorem s_13_17 (hC : SndC g HB l MM call) : Snd g HB l call cX1_putNumber 2 yX1_putNumber.cls yX1_putNumber.name 17 (lf (q_load isI 1 18)) := lf_ok (p_iload_n (by decide +kernel : decode cX1_putNumber 17 = .ok (.iload_n 1, 1)) rfl rfl)
set_option maxRecDepth 100000 in
theorem s_13_18 (hC : SndC g HB l MM call) : Snd g HB l call cX1_putNumber 2 yX1_putNumber.cls yX1_putNumber.name 18 (lf (q_push (.inl 8) 20)) := lf_ok (p_bipush (by decide +kernel : decode cX1_putNumber 18 = .ok (.bipush 8, 2)) (by decide +kernel) rfl)
set_option maxRecDepth 100000 in
theorem s_13_20 (hC : SndC g HB l MM call) : Snd g HB l call cX1_putNumber 2 yX1_putNumber.cls yX1_putNumber.name 20 (lf (q_bin shrA 21)) := lf_ok (p_ishr (by decide +kernel : decode cX1_putNumber 20 = .ok (.ishr, 1)) rfl)
set_option maxRecDepth 100000 in
theorem s_13_21 (hC : SndC g HB l MM call) : Snd g HB l call cX1_putNumber 2 yX1_putNumber.cls yX1_putNumber.name 21 (s_cV 2 14 1 21 24) := c_V (C := RX1) (T := TX1) (N := 2) (ci := 2) rfl hC (M := MM) (id := 14) (d := D_14) rfl mok_14 rfl rfl (tin 2 91 (by decide +kernel) rfl) (tin 2 92 (by decide +kernel) rfl) (tin 2 93 (by decide +kernel) rfl) (tin 1 2 (by decide +kernel) rfl) (by decide +kernel : decode cX1_putNumber 21 = .ok (.invokevirtual 19, 3)) rfl
set_option maxRecDepth 100000 in
theorem s_13_24 (hC : SndC g HB l MM call) : Snd g HB l call cX1_putNumber 2 yX1_putNumber.cls yX1_putNumber.name 24 (lf (q_load isR 0 25)) := lf_ok (p_aload_n (by decide +kernel : decode cX1_putNumber 24 = .ok (.aload_n 0, 1)) rfl rfl)
set_option maxRecDepth 100000 in
theorem s_13_25 (hC : SndC g HB l MM call) : Snd g HB l call cX1_putNumber 2 yX1_putNumber.cls yX1_putNumber.name 25 (lf (q_load isI 1 26)) := lf_ok (p_iload_n (by decide +kernel : decode cX1_putNumber 25 = .ok (.iload_n 1, 1)) rfl rfl)
set_option maxRecDepth 100000 in
theorem s_13_26 (hC : SndC g HB l MM call) : Snd g HB l call cX1_putNumber 2 yX1_putNumber.cls yX1_putNumber.name 26 (s_cV 2 14 1 21 29) := c_V (C := RX1) (T := TX1) (N := 2) (ci := 2) rfl hC (M := MM) (id := 14) (d := D_14) rfl mok_14 rfl rfl (tin 2 91 (by decide +kernel) rfl) (tin 2 92 (by decide +kernel) rfl) (tin 2 93 (by decide +kernel) rfl) (tin 1 2 (by decide +kernel) rfl) (by decide +kernel : decode cX1_putNumber 26 = .ok (.invokevirtual 19, 3)) rfl
set_option maxRecDepth 100000 in
theorem ok_13 (hex : HB.size = g.1) (hC : SndC g HB l MM call) : ∀ x ∈ P_13, Snd g HB l call cX1_putNumber 2 yX1_putNumber.cls yX1_putNumber.name x.1 x.2 := fa0 (s_13_0 hC) (fa0 (s_13_1 hC) (fa0 (s_13_2 hC) (fa0 (s_13_4 hC) (fa0 (s_13_5 hC) (fa0 (s_13_8 hC) (fa0 (s_13_9 hC) (fa0 (s_13_10 hC) (fa0 (s_13_12 hC) (fa0 (s_13_13 hC) (fa0 (s_13_16 hC) (fa0 (s_13_17 hC) (fa0 (s_13_18 hC) (fa0 (s_13_20 hC) (fa0 (s_13_21 hC) (fa0 (s_13_24 hC) (fa0 (s_13_25 hC) (fa0 (s_13_26 hC) (fn0))))))))))))))))))
set_option maxRecDepth 100000 in
theorem ms_13 (hex : HB.size = g.1) : MSnd g HB l MM D_13 := ⟨by decide +kernel, fun _ hC => ok_13 hex hC, fa0 (show endOK cX1_putNumber none 29 0 from ⟨rfl, (by decide +kernel : decode cX1_putNumber 29 = .ok (.return_, 1))⟩) (fn0)⟩
end PR0
