/-! Each reached instruction does what its step computes. -/
theorem fa1 {α : Type} {p : α → Prop} {a : α} {l : List α} (h : p a) (t : ∀ x ∈ l, p x) : ∀ x ∈ a :: l, p x := List.forall_mem_cons.mpr ⟨h, t⟩
theorem fn1 {α : Type} {p : α → Prop} : ∀ x ∈ ([] : List α), p x := fun _ h => absurd h List.not_mem_nil
section PR1
variable {g : GG} {HB : Heap} {l : Launch} {call : CallF}
set_option maxRecDepth 100000 in
theorem s_14_0 (hC : SndC g HB l MM call) : Snd g HB l call cX1_put 2 yX1_put.cls yX1_put.name 0 (lf (q_load isR 0 1)) := lf_ok (p_aload_n (by decide +kernel : decode cX1_put 0 = .ok (.aload_n 0, 1)) rfl rfl)
set_option maxRecDepth 100000 in
theorem s_14_1 (hC : SndC g HB l MM call) : Snd g HB l call cX1_put 2 yX1_put.cls yX1_put.name 1 (s_get 2 1 4) := h_get (k := 1) (C := RX1) (T := TX1) (N := 2) (ci := 2) rfl (by decide) (tin 1 47 (by decide +kernel) rfl)  (by decide +kernel : decode cX1_put 1 = .ok (.getfield 15, 3)) rfl
set_option maxRecDepth 100000 in
theorem s_14_4 (hC : SndC g HB l MM call) : Snd g HB l call cX1_put 2 yX1_put.cls yX1_put.name 4 (s_br1 2 40 7) := b_lt (by decide +kernel : decode cX1_put 4 = .ok (.ifCond .lt 36, 3)) (by decide) rfl
set_option maxRecDepth 100000 in
theorem s_14_7 (hC : SndC g HB l MM call) : Snd g HB l call cX1_put 2 yX1_put.cls yX1_put.name 7 (lf (q_load isR 0 8)) := lf_ok (p_aload_n (by decide +kernel : decode cX1_put 7 = .ok (.aload_n 0, 1)) rfl rfl)
set_option maxRecDepth 100000 in
theorem s_14_8 (hC : SndC g HB l MM call) : Snd g HB l call cX1_put 2 yX1_put.cls yX1_put.name 8 (s_get 2 1 11) := h_get (k := 1) (C := RX1) (T := TX1) (N := 2) (ci := 2) rfl (by decide) (tin 1 47 (by decide +kernel) rfl)  (by decide +kernel : decode cX1_put 8 = .ok (.getfield 15, 3)) rfl
set_option maxRecDepth 100000 in
theorem s_14_11 (hC : SndC g HB l MM call) : Snd g HB l call cX1_put 2 yX1_put.cls yX1_put.name 11 (lf (q_load isR 0 12)) := lf_ok (p_aload_n (by decide +kernel : decode cX1_put 11 = .ok (.aload_n 0, 1)) rfl rfl)
set_option maxRecDepth 100000 in
theorem s_14_12 (hC : SndC g HB l MM call) : Snd g HB l call cX1_put 2 yX1_put.cls yX1_put.name 12 (s_get 2 0 15) := h_get (k := 0) (C := RX1) (T := TX1) (N := 2) (ci := 2) rfl (by decide) (tin 1 46 (by decide +kernel) rfl)  (by decide +kernel : decode cX1_put 12 = .ok (.getfield 9, 3)) rfl
set_option maxRecDepth 100000 in
theorem s_14_15 (hC : SndC g HB l MM call) : Snd g HB l call cX1_put 2 yX1_put.cls yX1_put.name 15 (s_alen 16) := h_alen (by decide +kernel : decode cX1_put 15 = .ok (.arraylength, 1)) rfl
set_option maxRecDepth 100000 in
theorem s_14_16 (hC : SndC g HB l MM call) : Snd g HB l call cX1_put 2 yX1_put.cls yX1_put.name 16 (s_br2 3 40 19) := b_ige (by decide +kernel : decode cX1_put 16 = .ok (.if_icmp .ge 24, 3)) (by decide) rfl
set_option maxRecDepth 100000 in
theorem s_14_19 (hC : SndC g HB l MM call) : Snd g HB l call cX1_put 2 yX1_put.cls yX1_put.name 19 (lf (q_load isR 0 20)) := lf_ok (p_aload_n (by decide +kernel : decode cX1_put 19 = .ok (.aload_n 0, 1)) rfl rfl)
set_option maxRecDepth 100000 in
theorem s_14_20 (hC : SndC g HB l MM call) : Snd g HB l call cX1_put 2 yX1_put.cls yX1_put.name 20 (s_get 2 0 23) := h_get (k := 0) (C := RX1) (T := TX1) (N := 2) (ci := 2) rfl (by decide) (tin 1 46 (by decide +kernel) rfl)  (by decide +kernel : decode cX1_put 20 = .ok (.getfield 9, 3)) rfl
set_option maxRecDepth 100000 in
theorem s_14_23 (hC : SndC g HB l MM call) : Snd g HB l call cX1_put 2 yX1_put.cls yX1_put.name 23 (lf (q_load isR 0 24)) := lf_ok (p_aload_n (by decide +kernel : decode cX1_put 23 = .ok (.aload_n 0, 1)) rfl rfl)
set_option maxRecDepth 100000 in
theorem s_14_24 (hC : SndC g HB l MM call) : Snd g HB l call cX1_put 2 yX1_put.cls yX1_put.name 24 (s_get 2 1 27) := h_get (k := 1) (C := RX1) (T := TX1) (N := 2) (ci := 2) rfl (by decide) (tin 1 47 (by decide +kernel) rfl)  (by decide +kernel : decode cX1_put 24 = .ok (.getfield 15, 3)) rfl
set_option maxRecDepth 100000 in
theorem s_14_27 (hC : SndC g HB l MM call) : Snd g HB l call cX1_put 2 yX1_put.cls yX1_put.name 27 (lf (q_load isI 1 28)) := lf_ok (p_iload_n (by decide +kernel : decode cX1_put 27 = .ok (.iload_n 1, 1)) rfl rfl)
set_option maxRecDepth 100000 in
theorem s_14_28 (hC : SndC g HB l MM call) : Snd g HB l call cX1_put 2 yX1_put.cls yX1_put.name 28 (lf (q_un i2bA 29)) := lf_ok (p_i2b (by decide +kernel : decode cX1_put 28 = .ok (.i2b, 1)) rfl)
set_option maxRecDepth 100000 in
theorem s_14_29 (hC : SndC g HB l MM call) : Snd g HB l call cX1_put 2 yX1_put.cls yX1_put.name 29 (s_ast (fun t => Nat.beq t 1 || Nat.beq t 2) cvB 30) := h_bast (by decide +kernel : decode cX1_put 29 = .ok (.bastore, 1)) rfl
set_option maxRecDepth 100000 in
theorem s_14_30 (hC : SndC g HB l MM call) : Snd g HB l call cX1_put 2 yX1_put.cls yX1_put.name 30 (lf (q_load isR 0 31)) := lf_ok (p_aload_n (by decide +kernel : decode cX1_put 30 = .ok (.aload_n 0, 1)) rfl rfl)
set_option maxRecDepth 100000 in
theorem s_14_31 (hC : SndC g HB l MM call) : Snd g HB l call cX1_put 2 yX1_put.cls yX1_put.name 31 (lf (q_dup 32)) := lf_ok (p_dup (by decide +kernel : decode cX1_put 31 = .ok (.dup, 1)) rfl)
set_option maxRecDepth 100000 in
theorem s_14_32 (hC : SndC g HB l MM call) : Snd g HB l call cX1_put 2 yX1_put.cls yX1_put.name 32 (s_get 2 1 35) := h_get (k := 1) (C := RX1) (T := TX1) (N := 2) (ci := 2) rfl (by decide) (tin 1 47 (by decide +kernel) rfl)  (by decide +kernel : decode cX1_put 32 = .ok (.getfield 15, 3)) rfl
set_option maxRecDepth 100000 in
theorem s_14_35 (hC : SndC g HB l MM call) : Snd g HB l call cX1_put 2 yX1_put.cls yX1_put.name 35 (lf (q_push (.inl 1) 36)) := lf_ok (p_iconst (by decide +kernel : decode cX1_put 35 = .ok (.iconst 1, 1)) (by decide +kernel) rfl)
set_option maxRecDepth 100000 in
theorem s_14_36 (hC : SndC g HB l MM call) : Snd g HB l call cX1_put 2 yX1_put.cls yX1_put.name 36 (lf (q_bin (iop2 (fun x y => x + y)) 37)) := lf_ok (p_iadd (by decide +kernel : decode cX1_put 36 = .ok (.iadd, 1)) rfl)
set_option maxRecDepth 100000 in
theorem s_14_37 (hC : SndC g HB l MM call) : Snd g HB l call cX1_put 2 yX1_put.cls yX1_put.name 37 (s_put 2 1 0 40) := h_put (k := 1) (C := RX1) (T := TX1) (N := 2) (ci := 2) rfl (by decide) rfl rfl (tin 1 47 (by decide +kernel) rfl)  (by decide +kernel : decode cX1_put 37 = .ok (.putfield 15, 3)) rfl
set_option maxRecDepth 100000 in
theorem ok_14 (hex : HB.size = g.1) (hC : SndC g HB l MM call) : ∀ x ∈ P_14, Snd g HB l call cX1_put 2 yX1_put.cls yX1_put.name x.1 x.2 := fa1 (s_14_0 hC) (fa1 (s_14_1 hC) (fa1 (s_14_4 hC) (fa1 (s_14_7 hC) (fa1 (s_14_8 hC) (fa1 (s_14_11 hC) (fa1 (s_14_12 hC) (fa1 (s_14_15 hC) (fa1 (s_14_16 hC) (fa1 (s_14_19 hC) (fa1 (s_14_20 hC) (fa1 (s_14_23 hC) (fa1 (s_14_24 hC) (fa1 (s_14_27 hC) (fa1 (s_14_28 hC) (fa1 (s_14_29 hC) (fa1 (s_14_30 hC) (fa1 (s_14_31 hC) (fa1 (s_14_32 hC) (fa1 (s_14_35 hC) (fa1 (s_14_36 hC) (fa1 (s_14_37 hC) (fn1))))))))))))))))))))))
set_option maxRecDepth 100000 in
theorem ms_14 (hex : HB.size = g.1) : MSnd g HB l MM D_14 := ⟨by decide +kernel, fun _ hC => ok_14 hex hC, fa1 (show endOK cX1_put none 40 0 from ⟨rfl, (by decide +kernel : decode cX1_put 40 = .ok (.return_, 1))⟩) (fn1)⟩
set_option maxRecDepth 100000 in
theorem s_15_0 (hC : SndC g HB l MM call) : Snd g HB l call cX12_init 1 yX12_init.cls yX12_init.name 0 (lf (q_load isR 0 1)) := lf_ok (p_aload_n (by decide +kernel : decode cX12_init 0 = .ok (.aload_n 0, 1)) rfl rfl)
set_option maxRecDepth 100000 in
theorem s_15_1 (hC : SndC g HB l MM call) : Snd g HB l call cX12_init 1 yX12_init.cls yX12_init.name 1 (s_obj 4) := m_obj (tin 6 156 (by decide +kernel) rfl) (tin 1 38 (by decide +kernel) rfl) (tin 1 39 (by decide +kernel) rfl) (by decide +kernel : decode cX12_init 1 = .ok (.invokespecial 1, 3)) rfl
set_option maxRecDepth 100000 in
theorem s_15_4 (hC : SndC g HB l MM call) : Snd g HB l call cX12_init 1 yX12_init.cls yX12_init.name 4 (lf (q_load isR 0 5)) := lf_ok (p_aload_n (by decide +kernel : decode cX12_init 4 = .ok (.aload_n 0, 1)) rfl rfl)
set_option maxRecDepth 100000 in
theorem s_15_5 (hC : SndC g HB l MM call) : Snd g HB l call cX12_init 1 yX12_init.cls yX12_init.name 5 (lf (q_push (.inl 20) 7)) := lf_ok (p_bipush (by decide +kernel : decode cX12_init 5 = .ok (.bipush 20, 2)) (by decide +kernel) rfl)
set_option maxRecDepth 100000 in
theorem s_15_7 (hC : SndC g HB l MM call) (hex : HB.size = g.1) : Snd g HB l call cX12_init 1 yX12_init.cls yX12_init.name 7 (s_newa 1 9) := h_newa hex (t := 1) (by decide) rfl (tin 1 53 (by decide +kernel) rfl) (by decide +kernel : decode cX12_init 7 = .ok (.newarray .byte, 2)) rfl
set_option maxRecDepth 100000 in
theorem s_15_9 (hC : SndC g HB l MM call) : Snd g HB l call cX12_init 1 yX12_init.cls yX12_init.name 9 (s_put 10 1 3 12) := h_putF (k := 1) (C := RX12) (T := TX12) (N := 70) (ci := 10) rfl (by decide) rfl rfl rfl (Or.inr ⟨_, rfl⟩) (tin 6 163 (by decide +kernel) rfl) (by decide +kernel : decode cX12_init 9 = .ok (.putfield 7, 3)) rfl
set_option maxRecDepth 100000 in
theorem s_15_12 (hC : SndC g HB l MM call) : Snd g HB l call cX12_init 1 yX12_init.cls yX12_init.name 12 (lf (q_load isR 0 13)) := lf_ok (p_aload_n (by decide +kernel : decode cX12_init 12 = .ok (.aload_n 0, 1)) rfl rfl)
set_option maxRecDepth 100000 in
theorem s_15_13 (hC : SndC g HB l MM call) : Snd g HB l call cX12_init 1 yX12_init.cls yX12_init.name 13 (lf (q_push (.inl 1200) 16)) := lf_ok (p_sipush (by decide +kernel : decode cX12_init 13 = .ok (.sipush 1200, 3)) (by decide +kernel) rfl)
set_option maxRecDepth 100000 in
theorem s_15_16 (hC : SndC g HB l MM call) (hex : HB.size = g.1) : Snd g HB l call cX12_init 1 yX12_init.cls yX12_init.name 16 (s_newa 1 18) := h_newa hex (t := 1) (by decide) rfl (tin 1 53 (by decide +kernel) rfl) (by decide +kernel : decode cX12_init 16 = .ok (.newarray .byte, 2)) rfl
set_option maxRecDepth 100000 in
theorem s_15_18 (hC : SndC g HB l MM call) : Snd g HB l call cX12_init 1 yX12_init.cls yX12_init.name 18 (s_put 10 2 3 21) := h_putF (k := 2) (C := RX12) (T := TX12) (N := 70) (ci := 10) rfl (by decide) rfl rfl rfl (Or.inr ⟨_, rfl⟩) (tin 6 164 (by decide +kernel) rfl) (by decide +kernel : decode cX12_init 18 = .ok (.putfield 13, 3)) rfl
set_option maxRecDepth 100000 in
theorem s_15_21 (hC : SndC g HB l MM call) : Snd g HB l call cX12_init 1 yX12_init.cls yX12_init.name 21 (lf (q_load isR 0 22)) := lf_ok (p_aload_n (by decide +kernel : decode cX12_init 21 = .ok (.aload_n 0, 1)) rfl rfl)
set_option maxRecDepth 100000 in
theorem s_15_22 (hC : SndC g HB l MM call) : Snd g HB l call cX12_init 1 yX12_init.cls yX12_init.name 22 (s_val (.inl 240000) 24) := m_ldc (x := 240000) (tin 6 157 (by decide +kernel) rfl) (by decide +kernel) (by decide +kernel : decode cX12_init 22 = .ok (.ldc 16, 2)) rfl
set_option maxRecDepth 100000 in
theorem s_15_24 (hC : SndC g HB l MM call) (hex : HB.size = g.1) : Snd g HB l call cX12_init 1 yX12_init.cls yX12_init.name 24 (s_newa 1 26) := h_newa hex (t := 1) (by decide) rfl (tin 1 53 (by decide +kernel) rfl) (by decide +kernel : decode cX12_init 24 = .ok (.newarray .byte, 2)) rfl
set_option maxRecDepth 100000 in
theorem s_15_26 (hC : SndC g HB l MM call) : Snd g HB l call cX12_init 1 yX12_init.cls yX12_init.name 26 (s_put 10 6 3 29) := h_putF (k := 6) (C := RX12) (T := TX12) (N := 70) (ci := 10) rfl (by decide) rfl rfl rfl (Or.inr ⟨_, rfl⟩) (tin 6 168 (by decide +kernel) rfl) (by decide +kernel : decode cX12_init 26 = .ok (.putfield 17, 3)) rfl
set_option maxRecDepth 100000 in
theorem s_15_29 (hC : SndC g HB l MM call) : Snd g HB l call cX12_init 1 yX12_init.cls yX12_init.name 29 (lf (q_load isR 0 30)) := lf_ok (p_aload_n (by decide +kernel : decode cX12_init 29 = .ok (.aload_n 0, 1)) rfl rfl)
set_option maxRecDepth 100000 in
theorem s_15_30 (hC : SndC g HB l MM call) : Snd g HB l call cX12_init 1 yX12_init.cls yX12_init.name 30 (lf (q_push (.inl 200) 33)) := lf_ok (p_sipush (by decide +kernel : decode cX12_init 30 = .ok (.sipush 200, 3)) (by decide +kernel) rfl)
set_option maxRecDepth 100000 in
theorem s_15_33 (hC : SndC g HB l MM call) (hex : HB.size = g.1) : Snd g HB l call cX12_init 1 yX12_init.cls yX12_init.name 33 (s_newa 0 35) := h_newa hex (t := 0) (by decide) rfl (tin 1 82 (by decide +kernel) rfl) (by decide +kernel : decode cX12_init 33 = .ok (.newarray .int, 2)) rfl
set_option maxRecDepth 100000 in
theorem s_15_35 (hC : SndC g HB l MM call) : Snd g HB l call cX12_init 1 yX12_init.cls yX12_init.name 35 (s_put 10 7 3 38) := h_putF (k := 7) (C := RX12) (T := TX12) (N := 70) (ci := 10) rfl (by decide) rfl rfl rfl (Or.inr ⟨_, rfl⟩) (tin 6 169 (by decide +kernel) rfl) (by decide +kernel : decode cX12_init 35 = .ok (.putfield 20, 3)) rfl
set_option maxRecDepth 100000 in
theorem s_15_38 (hC : SndC g HB l MM call) : Snd g HB l call cX12_init 1 yX12_init.cls yX12_init.name 38 (lf (q_load isR 0 39)) := lf_ok (p_aload_n (by decide +kernel : decode cX12_init 38 = .ok (.aload_n 0, 1)) rfl rfl)
set_option maxRecDepth 100000 in
theorem s_15_39 (hC : SndC g HB l MM call) : Snd g HB l call cX12_init 1 yX12_init.cls yX12_init.name 39 (lf (q_push (.inl 200) 42)) := lf_ok (p_sipush (by decide +kernel : decode cX12_init 39 = .ok (.sipush 200, 3)) (by decide +kernel) rfl)
set_option maxRecDepth 100000 in
theorem s_15_42 (hC : SndC g HB l MM call) (hex : HB.size = g.1) : Snd g HB l call cX12_init 1 yX12_init.cls yX12_init.name 42 (s_newa 2 44) := h_newa hex (t := 2) (by decide) rfl (tin 2 25 (by decide +kernel) rfl) (by decide +kernel : decode cX12_init 42 = .ok (.newarray .boolean, 2)) rfl
set_option maxRecDepth 100000 in
theorem s_15_44 (hC : SndC g HB l MM call) : Snd g HB l call cX12_init 1 yX12_init.cls yX12_init.name 44 (s_put 10 8 3 47) := h_putF (k := 8) (C := RX12) (T := TX12) (N := 70) (ci := 10) rfl (by decide) rfl rfl rfl (Or.inr ⟨_, rfl⟩) (tin 6 170 (by decide +kernel) rfl) (by decide +kernel : decode cX12_init 44 = .ok (.putfield 24, 3)) rfl
set_option maxRecDepth 100000 in
theorem s_15_47 (hC : SndC g HB l MM call) : Snd g HB l call cX12_init 1 yX12_init.cls yX12_init.name 47 (lf (q_load isR 0 48)) := lf_ok (p_aload_n (by decide +kernel : decode cX12_init 47 = .ok (.aload_n 0, 1)) rfl rfl)
set_option maxRecDepth 100000 in
theorem s_15_48 (hC : SndC g HB l MM call) : Snd g HB l call cX12_init 1 yX12_init.cls yX12_init.name 48 (lf (q_push (.inl 19200) 51)) := lf_ok (p_sipush (by decide +kernel : decode cX12_init 48 = .ok (.sipush 19200, 3)) (by decide +kernel) rfl)
set_option maxRecDepth 100000 in
theorem s_15_51 (hC : SndC g HB l MM call) (hex : HB.size = g.1) : Snd g HB l call cX12_init 1 yX12_init.cls yX12_init.name 51 (s_newa 1 53) := h_newa hex (t := 1) (by decide) rfl (tin 1 53 (by decide +kernel) rfl) (by decide +kernel : decode cX12_init 51 = .ok (.newarray .byte, 2)) rfl
set_option maxRecDepth 100000 in
theorem s_15_53 (hC : SndC g HB l MM call) : Snd g HB l call cX12_init 1 yX12_init.cls yX12_init.name 53 (s_put 10 9 3 56) := h_putF (k := 9) (C := RX12) (T := TX12) (N := 70) (ci := 10) rfl (by decide) rfl rfl rfl (Or.inr ⟨_, rfl⟩) (tin 6 171 (by decide +kernel) rfl) (by decide +kernel : decode cX12_init 53 = .ok (.putfield 28, 3)) rfl
set_option maxRecDepth 100000 in
theorem s_15_56 (hC : SndC g HB l MM call) : Snd g HB l call cX12_init 1 yX12_init.cls yX12_init.name 56 (lf (q_load isR 0 57)) := lf_ok (p_aload_n (by decide +kernel : decode cX12_init 56 = .ok (.aload_n 0, 1)) rfl rfl)
set_option maxRecDepth 100000 in
theorem s_15_57 (hC : SndC g HB l MM call) : Snd g HB l call cX12_init 1 yX12_init.cls yX12_init.name 57 (lf (q_push (.inl 1600) 60)) := lf_ok (p_sipush (by decide +kernel : decode cX12_init 57 = .ok (.sipush 1600, 3)) (by decide +kernel) rfl)
set_option maxRecDepth 100000 in
theorem s_15_60 (hC : SndC g HB l MM call) (hex : HB.size = g.1) : Snd g HB l call cX12_init 1 yX12_init.cls yX12_init.name 60 (s_newa 0 62) := h_newa hex (t := 0) (by decide) rfl (tin 1 82 (by decide +kernel) rfl) (by decide +kernel : decode cX12_init 60 = .ok (.newarray .int, 2)) rfl
set_option maxRecDepth 100000 in
theorem s_15_62 (hC : SndC g HB l MM call) : Snd g HB l call cX12_init 1 yX12_init.cls yX12_init.name 62 (s_put 10 10 3 65) := h_putF (k := 10) (C := RX12) (T := TX12) (N := 70) (ci := 10) rfl (by decide) rfl rfl rfl (Or.inr ⟨_, rfl⟩) (tin 6 172 (by decide +kernel) rfl) (by decide +kernel : decode cX12_init 62 = .ok (.putfield 31, 3)) rfl
set_option maxRecDepth 100000 in
theorem s_15_65 (hC : SndC g HB l MM call) : Snd g HB l call cX12_init 1 yX12_init.cls yX12_init.name 65 (lf (q_load isR 0 66)) := lf_ok (p_aload_n (by decide +kernel : decode cX12_init 65 = .ok (.aload_n 0, 1)) rfl rfl)
set_option maxRecDepth 100000 in
theorem s_15_66 (hC : SndC g HB l MM call) : Snd g HB l call cX12_init 1 yX12_init.cls yX12_init.name 66 (lf (q_push (.inl 200) 69)) := lf_ok (p_sipush (by decide +kernel : decode cX12_init 66 = .ok (.sipush 200, 3)) (by decide +kernel) rfl)
set_option maxRecDepth 100000 in
theorem s_15_69 (hC : SndC g HB l MM call) (hex : HB.size = g.1) : Snd g HB l call cX12_init 1 yX12_init.cls yX12_init.name 69 (s_newa 0 71) := h_newa hex (t := 0) (by decide) rfl (tin 1 82 (by decide +kernel) rfl) (by decide +kernel : decode cX12_init 69 = .ok (.newarray .int, 2)) rfl
set_option maxRecDepth 100000 in
theorem s_15_71 (hC : SndC g HB l MM call) : Snd g HB l call cX12_init 1 yX12_init.cls yX12_init.name 71 (s_put 10 11 3 74) := h_putF (k := 11) (C := RX12) (T := TX12) (N := 70) (ci := 10) rfl (by decide) rfl rfl rfl (Or.inr ⟨_, rfl⟩) (tin 6 173 (by decide +kernel) rfl) (by decide +kernel : decode cX12_init 71 = .ok (.putfield 34, 3)) rfl
set_option maxRecDepth 100000 in
theorem s_15_74 (hC : SndC g HB l MM call) : Snd g HB l call cX12_init 1 yX12_init.cls yX12_init.name 74 (lf (q_load isR 0 75)) := lf_ok (p_aload_n (by decide +kernel : decode cX12_init 74 = .ok (.aload_n 0, 1)) rfl rfl)
set_option maxRecDepth 100000 in
theorem s_15_75 (hC : SndC g HB l MM call) : Snd g HB l call cX12_init 1 yX12_init.cls yX12_init.name 75 (lf (q_push (.inl 4294967295) 76)) := lf_ok (p_iconst (by decide +kernel : decode cX12_init 75 = .ok (.iconst (-1), 1)) (by decide +kernel) rfl)
set_option maxRecDepth 100000 in
theorem s_15_76 (hC : SndC g HB l MM call) : Snd g HB l call cX12_init 1 yX12_init.cls yX12_init.name 76 (s_put 10 12 0 79) := h_put (k := 12) (C := RX12) (T := TX12) (N := 70) (ci := 10) rfl (by decide) rfl rfl (tin 6 174 (by decide +kernel) rfl)  (by decide +kernel : decode cX12_init 76 = .ok (.putfield 37, 3)) rfl
set_option maxRecDepth 100000 in
theorem s_15_79 (hC : SndC g HB l MM call) : Snd g HB l call cX12_init 1 yX12_init.cls yX12_init.name 79 (lf (q_load isR 0 80)) := lf_ok (p_aload_n (by decide +kernel : decode cX12_init 79 = .ok (.aload_n 0, 1)) rfl rfl)
set_option maxRecDepth 100000 in
theorem s_15_80 (hC : SndC g HB l MM call) : Snd g HB l call cX12_init 1 yX12_init.cls yX12_init.name 80 (lf (q_push (.inl 4) 81)) := lf_ok (p_iconst (by decide +kernel : decode cX12_init 80 = .ok (.iconst 4, 1)) (by decide +kernel) rfl)
set_option maxRecDepth 100000 in
theorem s_15_81 (hC : SndC g HB l MM call) (hex : HB.size = g.1) : Snd g HB l call cX12_init 1 yX12_init.cls yX12_init.name 81 (s_newa 0 83) := h_newa hex (t := 0) (by decide) rfl (tin 1 82 (by decide +kernel) rfl) (by decide +kernel : decode cX12_init 81 = .ok (.newarray .int, 2)) rfl
set_option maxRecDepth 100000 in
theorem s_15_83 (hC : SndC g HB l MM call) : Snd g HB l call cX12_init 1 yX12_init.cls yX12_init.name 83 (s_put 10 13 3 86) := h_putF (k := 13) (C := RX12) (T := TX12) (N := 70) (ci := 10) rfl (by decide) rfl rfl rfl (Or.inr ⟨_, rfl⟩) (tin 6 175 (by decide +kernel) rfl) (by decide +kernel : decode cX12_init 83 = .ok (.putfield 41, 3)) rfl
set_option maxRecDepth 100000 in
theorem s_15_86 (hC : SndC g HB l MM call) : Snd g HB l call cX12_init 1 yX12_init.cls yX12_init.name 86 (lf (q_load isR 0 87)) := lf_ok (p_aload_n (by decide +kernel : decode cX12_init 86 = .ok (.aload_n 0, 1)) rfl rfl)
set_option maxRecDepth 100000 in
theorem s_15_87 (hC : SndC g HB l MM call) : Snd g HB l call cX12_init 1 yX12_init.cls yX12_init.name 87 (s_val (.inl 40960) 89) := m_ldc (x := 40960) (tin 6 158 (by decide +kernel) rfl) (by decide +kernel) (by decide +kernel : decode cX12_init 87 = .ok (.ldc 44, 2)) rfl
set_option maxRecDepth 100000 in
theorem s_15_89 (hC : SndC g HB l MM call) (hex : HB.size = g.1) : Snd g HB l call cX12_init 1 yX12_init.cls yX12_init.name 89 (s_newa 1 91) := h_newa hex (t := 1) (by decide) rfl (tin 1 53 (by decide +kernel) rfl) (by decide +kernel : decode cX12_init 89 = .ok (.newarray .byte, 2)) rfl
set_option maxRecDepth 100000 in
theorem s_15_91 (hC : SndC g HB l MM call) : Snd g HB l call cX12_init 1 yX12_init.cls yX12_init.name 91 (s_put 10 14 3 94) := h_putF (k := 14) (C := RX12) (T := TX12) (N := 70) (ci := 10) rfl (by decide) rfl rfl rfl (Or.inr ⟨_, rfl⟩) (tin 6 176 (by decide +kernel) rfl) (by decide +kernel : decode cX12_init 91 = .ok (.putfield 45, 3)) rfl
set_option maxRecDepth 100000 in
theorem s_15_94 (hC : SndC g HB l MM call) : Snd g HB l call cX12_init 1 yX12_init.cls yX12_init.name 94 (lf (q_load isR 0 95)) := lf_ok (p_aload_n (by decide +kernel : decode cX12_init 94 = .ok (.aload_n 0, 1)) rfl rfl)
set_option maxRecDepth 100000 in
theorem s_15_95 (hC : SndC g HB l MM call) : Snd g HB l call cX12_init 1 yX12_init.cls yX12_init.name 95 (lf (q_push (.inl 2560) 98)) := lf_ok (p_sipush (by decide +kernel : decode cX12_init 95 = .ok (.sipush 2560, 3)) (by decide +kernel) rfl)
set_option maxRecDepth 100000 in
theorem s_15_98 (hC : SndC g HB l MM call) (hex : HB.size = g.1) : Snd g HB l call cX12_init 1 yX12_init.cls yX12_init.name 98 (s_newa 0 100) := h_newa hex (t := 0) (by decide) rfl (tin 1 82 (by decide +kernel) rfl) (by decide +kernel : decode cX12_init 98 = .ok (.newarray .int, 2)) rfl
set_option maxRecDepth 100000 in
theorem s_15_100 (hC : SndC g HB l MM call) : Snd g HB l call cX12_init 1 yX12_init.cls yX12_init.name 100 (s_put 10 15 3 103) := h_putF (k := 15) (C := RX12) (T := TX12) (N := 70) (ci := 10) rfl (by decide) rfl rfl rfl (Or.inr ⟨_, rfl⟩) (tin 6 177 (by decide +kernel) rfl) (by decide +kernel : decode cX12_init 100 = .ok (.putfield 48, 3)) rfl
set_option maxRecDepth 100000 in
theorem s_15_103 (hC : SndC g HB l MM call) : Snd g HB l call cX12_init 1 yX12_init.cls yX12_init.name 103 (lf (q_load isR 0 104)) := lf_ok (p_aload_n (by decide +kernel : decode cX12_init 103 = .ok (.aload_n 0, 1)) rfl rfl)
set_option maxRecDepth 100000 in
theorem s_15_104 (hC : SndC g HB l MM call) : Snd g HB l call cX12_init 1 yX12_init.cls yX12_init.name 104 (lf (q_push (.inl 60) 106)) := lf_ok (p_bipush (by decide +kernel : decode cX12_init 104 = .ok (.bipush 60, 2)) (by decide +kernel) rfl)
set_option maxRecDepth 100000 in
theorem s_15_106 (hC : SndC g HB l MM call) (hex : HB.size = g.1) : Snd g HB l call cX12_init 1 yX12_init.cls yX12_init.name 106 (s_newa 1 108) := h_newa hex (t := 1) (by decide) rfl (tin 1 53 (by decide +kernel) rfl) (by decide +kernel : decode cX12_init 106 = .ok (.newarray .byte, 2)) rfl
set_option maxRecDepth 100000 in
theorem s_15_108 (hC : SndC g HB l MM call) : Snd g HB l call cX12_init 1 yX12_init.cls yX12_init.name 108 (s_put 10 17 3 111) := h_putF (k := 17) (C := RX12) (T := TX12) (N := 70) (ci := 10) rfl (by decide) rfl rfl rfl (Or.inr ⟨_, rfl⟩) (tin 6 179 (by decide +kernel) rfl) (by decide +kernel : decode cX12_init 108 = .ok (.putfield 51, 3)) rfl
set_option maxRecDepth 100000 in
theorem s_15_111 (hC : SndC g HB l MM call) : Snd g HB l call cX12_init 1 yX12_init.cls yX12_init.name 111 (lf (q_load isR 0 112)) := lf_ok (p_aload_n (by decide +kernel : decode cX12_init 111 = .ok (.aload_n 0, 1)) rfl rfl)
set_option maxRecDepth 100000 in
theorem s_15_112 (hC : SndC g HB l MM call) : Snd g HB l call cX12_init 1 yX12_init.cls yX12_init.name 112 (lf (q_push (.inl 960) 115)) := lf_ok (p_sipush (by decide +kernel : decode cX12_init 112 = .ok (.sipush 960, 3)) (by decide +kernel) rfl)
set_option maxRecDepth 100000 in
theorem s_15_115 (hC : SndC g HB l MM call) (hex : HB.size = g.1) : Snd g HB l call cX12_init 1 yX12_init.cls yX12_init.name 115 (s_newa 1 117) := h_newa hex (t := 1) (by decide) rfl (tin 1 53 (by decide +kernel) rfl) (by decide +kernel : decode cX12_init 115 = .ok (.newarray .byte, 2)) rfl
set_option maxRecDepth 100000 in
theorem s_15_117 (hC : SndC g HB l MM call) : Snd g HB l call cX12_init 1 yX12_init.cls yX12_init.name 117 (s_put 10 20 3 120) := h_putF (k := 20) (C := RX12) (T := TX12) (N := 70) (ci := 10) rfl (by decide) rfl rfl rfl (Or.inr ⟨_, rfl⟩) (tin 6 182 (by decide +kernel) rfl) (by decide +kernel : decode cX12_init 117 = .ok (.putfield 54, 3)) rfl
set_option maxRecDepth 100000 in
theorem s_15_120 (hC : SndC g HB l MM call) : Snd g HB l call cX12_init 1 yX12_init.cls yX12_init.name 120 (lf (q_load isR 0 121)) := lf_ok (p_aload_n (by decide +kernel : decode cX12_init 120 = .ok (.aload_n 0, 1)) rfl rfl)
set_option maxRecDepth 100000 in
theorem s_15_121 (hC : SndC g HB l MM call) : Snd g HB l call cX12_init 1 yX12_init.cls yX12_init.name 121 (lf (q_push (.inl 16) 123)) := lf_ok (p_bipush (by decide +kernel : decode cX12_init 121 = .ok (.bipush 16, 2)) (by decide +kernel) rfl)
set_option maxRecDepth 100000 in
theorem s_15_123 (hC : SndC g HB l MM call) (hex : HB.size = g.1) : Snd g HB l call cX12_init 1 yX12_init.cls yX12_init.name 123 (s_newa 0 125) := h_newa hex (t := 0) (by decide) rfl (tin 1 82 (by decide +kernel) rfl) (by decide +kernel : decode cX12_init 123 = .ok (.newarray .int, 2)) rfl
set_option maxRecDepth 100000 in
theorem s_15_125 (hC : SndC g HB l MM call) : Snd g HB l call cX12_init 1 yX12_init.cls yX12_init.name 125 (s_put 10 21 3 128) := h_putF (k := 21) (C := RX12) (T := TX12) (N := 70) (ci := 10) rfl (by decide) rfl rfl rfl (Or.inr ⟨_, rfl⟩) (tin 6 183 (by decide +kernel) rfl) (by decide +kernel : decode cX12_init 125 = .ok (.putfield 57, 3)) rfl
set_option maxRecDepth 100000 in
theorem s_15_128 (hC : SndC g HB l MM call) : Snd g HB l call cX12_init 1 yX12_init.cls yX12_init.name 128 (lf (q_load isR 0 129)) := lf_ok (p_aload_n (by decide +kernel : decode cX12_init 128 = .ok (.aload_n 0, 1)) rfl rfl)
set_option maxRecDepth 100000 in
theorem s_15_129 (hC : SndC g HB l MM call) : Snd g HB l call cX12_init 1 yX12_init.cls yX12_init.name 129 (lf (q_push (.inl 1300) 132)) := lf_ok (p_sipush (by decide +kernel : decode cX12_init 129 = .ok (.sipush 1300, 3)) (by decide +kernel) rfl)
set_option maxRecDepth 100000 in
theorem s_15_132 (hC : SndC g HB l MM call) (hex : HB.size = g.1) : Snd g HB l call cX12_init 1 yX12_init.cls yX12_init.name 132 (s_newa 1 134) := h_newa hex (t := 1) (by decide) rfl (tin 1 53 (by decide +kernel) rfl) (by decide +kernel : decode cX12_init 132 = .ok (.newarray .byte, 2)) rfl
set_option maxRecDepth 100000 in
theorem s_15_134 (hC : SndC g HB l MM call) : Snd g HB l call cX12_init 1 yX12_init.cls yX12_init.name 134 (s_put 10 22 3 137) := h_putF (k := 22) (C := RX12) (T := TX12) (N := 70) (ci := 10) rfl (by decide) rfl rfl rfl (Or.inr ⟨_, rfl⟩) (tin 6 184 (by decide +kernel) rfl) (by decide +kernel : decode cX12_init 134 = .ok (.putfield 60, 3)) rfl
set_option maxRecDepth 100000 in
theorem s_15_137 (hC : SndC g HB l MM call) : Snd g HB l call cX12_init 1 yX12_init.cls yX12_init.name 137 (lf (q_load isR 0 138)) := lf_ok (p_aload_n (by decide +kernel : decode cX12_init 137 = .ok (.aload_n 0, 1)) rfl rfl)
set_option maxRecDepth 100000 in
theorem s_15_138 (hC : SndC g HB l MM call) : Snd g HB l call cX12_init 1 yX12_init.cls yX12_init.name 138 (lf (q_push (.inl 4000) 141)) := lf_ok (p_sipush (by decide +kernel : decode cX12_init 138 = .ok (.sipush 4000, 3)) (by decide +kernel) rfl)
set_option maxRecDepth 100000 in
theorem s_15_141 (hC : SndC g HB l MM call) (hex : HB.size = g.1) : Snd g HB l call cX12_init 1 yX12_init.cls yX12_init.name 141 (s_newa 1 143) := h_newa hex (t := 1) (by decide) rfl (tin 1 53 (by decide +kernel) rfl) (by decide +kernel : decode cX12_init 141 = .ok (.newarray .byte, 2)) rfl
set_option maxRecDepth 100000 in
theorem s_15_143 (hC : SndC g HB l MM call) : Snd g HB l call cX12_init 1 yX12_init.cls yX12_init.name 143 (s_put 10 24 3 146) := h_putF (k := 24) (C := RX12) (T := TX12) (N := 70) (ci := 10) rfl (by decide) rfl rfl rfl (Or.inr ⟨_, rfl⟩) (tin 6 186 (by decide +kernel) rfl) (by decide +kernel : decode cX12_init 143 = .ok (.putfield 63, 3)) rfl
set_option maxRecDepth 100000 in
theorem s_15_146 (hC : SndC g HB l MM call) : Snd g HB l call cX12_init 1 yX12_init.cls yX12_init.name 146 (lf (q_load isR 0 147)) := lf_ok (p_aload_n (by decide +kernel : decode cX12_init 146 = .ok (.aload_n 0, 1)) rfl rfl)
set_option maxRecDepth 100000 in
theorem s_15_147 (hC : SndC g HB l MM call) : Snd g HB l call cX12_init 1 yX12_init.cls yX12_init.name 147 (lf (q_push (.inl 1300) 150)) := lf_ok (p_sipush (by decide +kernel : decode cX12_init 147 = .ok (.sipush 1300, 3)) (by decide +kernel) rfl)
set_option maxRecDepth 100000 in
theorem s_15_150 (hC : SndC g HB l MM call) (hex : HB.size = g.1) : Snd g HB l call cX12_init 1 yX12_init.cls yX12_init.name 150 (s_newa 1 152) := h_newa hex (t := 1) (by decide) rfl (tin 1 53 (by decide +kernel) rfl) (by decide +kernel : decode cX12_init 150 = .ok (.newarray .byte, 2)) rfl
set_option maxRecDepth 100000 in
theorem s_15_152 (hC : SndC g HB l MM call) : Snd g HB l call cX12_init 1 yX12_init.cls yX12_init.name 152 (s_put 10 27 3 155) := h_putF (k := 27) (C := RX12) (T := TX12) (N := 70) (ci := 10) rfl (by decide) rfl rfl rfl (Or.inr ⟨_, rfl⟩) (tin 6 189 (by decide +kernel) rfl) (by decide +kernel : decode cX12_init 152 = .ok (.putfield 66, 3)) rfl
set_option maxRecDepth 100000 in
theorem s_15_155 (hC : SndC g HB l MM call) : Snd g HB l call cX12_init 1 yX12_init.cls yX12_init.name 155 (lf (q_load isR 0 156)) := lf_ok (p_aload_n (by decide +kernel : decode cX12_init 155 = .ok (.aload_n 0, 1)) rfl rfl)
set_option maxRecDepth 100000 in
theorem s_15_156 (hC : SndC g HB l MM call) : Snd g HB l call cX12_init 1 yX12_init.cls yX12_init.name 156 (lf (q_push (.inl 4000) 159)) := lf_ok (p_sipush (by decide +kernel : decode cX12_init 156 = .ok (.sipush 4000, 3)) (by decide +kernel) rfl)
set_option maxRecDepth 100000 in
theorem s_15_159 (hC : SndC g HB l MM call) (hex : HB.size = g.1) : Snd g HB l call cX12_init 1 yX12_init.cls yX12_init.name 159 (s_newa 0 161) := h_newa hex (t := 0) (by decide) rfl (tin 1 82 (by decide +kernel) rfl) (by decide +kernel : decode cX12_init 159 = .ok (.newarray .int, 2)) rfl
set_option maxRecDepth 100000 in
theorem s_15_161 (hC : SndC g HB l MM call) : Snd g HB l call cX12_init 1 yX12_init.cls yX12_init.name 161 (s_put 10 30 3 164) := h_putF (k := 30) (C := RX12) (T := TX12) (N := 70) (ci := 10) rfl (by decide) rfl rfl rfl (Or.inr ⟨_, rfl⟩) (tin 6 192 (by decide +kernel) rfl) (by decide +kernel : decode cX12_init 161 = .ok (.putfield 69, 3)) rfl
set_option maxRecDepth 100000 in
theorem s_15_164 (hC : SndC g HB l MM call) : Snd g HB l call cX12_init 1 yX12_init.cls yX12_init.name 164 (lf (q_load isR 0 165)) := lf_ok (p_aload_n (by decide +kernel : decode cX12_init 164 = .ok (.aload_n 0, 1)) rfl rfl)
set_option maxRecDepth 100000 in
theorem s_15_165 (hC : SndC g HB l MM call) : Snd g HB l call cX12_init 1 yX12_init.cls yX12_init.name 165 (lf (q_push (.inl 4000) 168)) := lf_ok (p_sipush (by decide +kernel : decode cX12_init 165 = .ok (.sipush 4000, 3)) (by decide +kernel) rfl)
set_option maxRecDepth 100000 in
theorem s_15_168 (hC : SndC g HB l MM call) (hex : HB.size = g.1) : Snd g HB l call cX12_init 1 yX12_init.cls yX12_init.name 168 (s_newa 0 170) := h_newa hex (t := 0) (by decide) rfl (tin 1 82 (by decide +kernel) rfl) (by decide +kernel : decode cX12_init 168 = .ok (.newarray .int, 2)) rfl
set_option maxRecDepth 100000 in
theorem s_15_170 (hC : SndC g HB l MM call) : Snd g HB l call cX12_init 1 yX12_init.cls yX12_init.name 170 (s_put 10 31 3 173) := h_putF (k := 31) (C := RX12) (T := TX12) (N := 70) (ci := 10) rfl (by decide) rfl rfl rfl (Or.inr ⟨_, rfl⟩) (tin 6 193 (by decide +kernel) rfl) (by decide +kernel : decode cX12_init 170 = .ok (.putfield 72, 3)) rfl
set_option maxRecDepth 100000 in
theorem s_15_173 (hC : SndC g HB l MM call) : Snd g HB l call cX12_init 1 yX12_init.cls yX12_init.name 173 (lf (q_load isR 0 174)) := lf_ok (p_aload_n (by decide +kernel : decode cX12_init 173 = .ok (.aload_n 0, 1)) rfl rfl)
set_option maxRecDepth 100000 in
theorem s_15_174 (hC : SndC g HB l MM call) : Snd g HB l call cX12_init 1 yX12_init.cls yX12_init.name 174 (lf (q_push (.inl 4000) 177)) := lf_ok (p_sipush (by decide +kernel : decode cX12_init 174 = .ok (.sipush 4000, 3)) (by decide +kernel) rfl)
set_option maxRecDepth 100000 in
theorem s_15_177 (hC : SndC g HB l MM call) (hex : HB.size = g.1) : Snd g HB l call cX12_init 1 yX12_init.cls yX12_init.name 177 (s_newa 0 179) := h_newa hex (t := 0) (by decide) rfl (tin 1 82 (by decide +kernel) rfl) (by decide +kernel : decode cX12_init 177 = .ok (.newarray .int, 2)) rfl
set_option maxRecDepth 100000 in
theorem s_15_179 (hC : SndC g HB l MM call) : Snd g HB l call cX12_init 1 yX12_init.cls yX12_init.name 179 (s_put 10 32 3 182) := h_putF (k := 32) (C := RX12) (T := TX12) (N := 70) (ci := 10) rfl (by decide) rfl rfl rfl (Or.inr ⟨_, rfl⟩) (tin 6 194 (by decide +kernel) rfl) (by decide +kernel : decode cX12_init 179 = .ok (.putfield 75, 3)) rfl
set_option maxRecDepth 100000 in
theorem s_15_182 (hC : SndC g HB l MM call) : Snd g HB l call cX12_init 1 yX12_init.cls yX12_init.name 182 (lf (q_load isR 0 183)) := lf_ok (p_aload_n (by decide +kernel : decode cX12_init 182 = .ok (.aload_n 0, 1)) rfl rfl)
set_option maxRecDepth 100000 in
theorem s_15_183 (hC : SndC g HB l MM call) : Snd g HB l call cX12_init 1 yX12_init.cls yX12_init.name 183 (lf (q_push (.inl 1300) 186)) := lf_ok (p_sipush (by decide +kernel : decode cX12_init 183 = .ok (.sipush 1300, 3)) (by decide +kernel) rfl)
set_option maxRecDepth 100000 in
theorem s_15_186 (hC : SndC g HB l MM call) (hex : HB.size = g.1) : Snd g HB l call cX12_init 1 yX12_init.cls yX12_init.name 186 (s_newa 0 188) := h_newa hex (t := 0) (by decide) rfl (tin 1 82 (by decide +kernel) rfl) (by decide +kernel : decode cX12_init 186 = .ok (.newarray .int, 2)) rfl
set_option maxRecDepth 100000 in
theorem s_15_188 (hC : SndC g HB l MM call) : Snd g HB l call cX12_init 1 yX12_init.cls yX12_init.name 188 (s_put 10 34 3 191) := h_putF (k := 34) (C := RX12) (T := TX12) (N := 70) (ci := 10) rfl (by decide) rfl rfl rfl (Or.inr ⟨_, rfl⟩) (tin 6 196 (by decide +kernel) rfl) (by decide +kernel : decode cX12_init 188 = .ok (.putfield 78, 3)) rfl
set_option maxRecDepth 100000 in
theorem s_15_191 (hC : SndC g HB l MM call) : Snd g HB l call cX12_init 1 yX12_init.cls yX12_init.name 191 (lf (q_load isR 0 192)) := lf_ok (p_aload_n (by decide +kernel : decode cX12_init 191 = .ok (.aload_n 0, 1)) rfl rfl)
set_option maxRecDepth 100000 in
theorem s_15_192 (hC : SndC g HB l MM call) : Snd g HB l call cX12_init 1 yX12_init.cls yX12_init.name 192 (lf (q_push (.inl 1300) 195)) := lf_ok (p_sipush (by decide +kernel : decode cX12_init 192 = .ok (.sipush 1300, 3)) (by decide +kernel) rfl)
set_option maxRecDepth 100000 in
theorem s_15_195 (hC : SndC g HB l MM call) (hex : HB.size = g.1) : Snd g HB l call cX12_init 1 yX12_init.cls yX12_init.name 195 (s_newa 0 197) := h_newa hex (t := 0) (by decide) rfl (tin 1 82 (by decide +kernel) rfl) (by decide +kernel : decode cX12_init 195 = .ok (.newarray .int, 2)) rfl
set_option maxRecDepth 100000 in
theorem s_15_197 (hC : SndC g HB l MM call) : Snd g HB l call cX12_init 1 yX12_init.cls yX12_init.name 197 (s_put 10 35 3 200) := h_putF (k := 35) (C := RX12) (T := TX12) (N := 70) (ci := 10) rfl (by decide) rfl rfl rfl (Or.inr ⟨_, rfl⟩) (tin 6 197 (by decide +kernel) rfl) (by decide +kernel : decode cX12_init 197 = .ok (.putfield 81, 3)) rfl
set_option maxRecDepth 100000 in
theorem s_15_200 (hC : SndC g HB l MM call) : Snd g HB l call cX12_init 1 yX12_init.cls yX12_init.name 200 (lf (q_load isR 0 201)) := lf_ok (p_aload_n (by decide +kernel : decode cX12_init 200 = .ok (.aload_n 0, 1)) rfl rfl)
set_option maxRecDepth 100000 in
theorem s_15_201 (hC : SndC g HB l MM call) : Snd g HB l call cX12_init 1 yX12_init.cls yX12_init.name 201 (s_val (.inl 72000) 203) := m_ldc (x := 72000) (tin 6 159 (by decide +kernel) rfl) (by decide +kernel) (by decide +kernel : decode cX12_init 201 = .ok (.ldc 84, 2)) rfl
set_option maxRecDepth 100000 in
theorem s_15_203 (hC : SndC g HB l MM call) (hex : HB.size = g.1) : Snd g HB l call cX12_init 1 yX12_init.cls yX12_init.name 203 (s_newa 1 205) := h_newa hex (t := 1) (by decide) rfl (tin 1 53 (by decide +kernel) rfl) (by decide +kernel : decode cX12_init 203 = .ok (.newarray .byte, 2)) rfl
set_option maxRecDepth 100000 in
theorem s_15_205 (hC : SndC g HB l MM call) : Snd g HB l call cX12_init 1 yX12_init.cls yX12_init.name 205 (s_put 10 38 3 208) := h_putF (k := 38) (C := RX12) (T := TX12) (N := 70) (ci := 10) rfl (by decide) rfl rfl rfl (Or.inr ⟨_, rfl⟩) (tin 6 200 (by decide +kernel) rfl) (by decide +kernel : decode cX12_init 205 = .ok (.putfield 85, 3)) rfl
set_option maxRecDepth 100000 in
theorem s_15_208 (hC : SndC g HB l MM call) : Snd g HB l call cX12_init 1 yX12_init.cls yX12_init.name 208 (lf (q_load isR 0 209)) := lf_ok (p_aload_n (by decide +kernel : decode cX12_init 208 = .ok (.aload_n 0, 1)) rfl rfl)
set_option maxRecDepth 100000 in
theorem s_15_209 (hC : SndC g HB l MM call) : Snd g HB l call cX12_init 1 yX12_init.cls yX12_init.name 209 (lf (q_push (.inl 1200) 212)) := lf_ok (p_sipush (by decide +kernel : decode cX12_init 209 = .ok (.sipush 1200, 3)) (by decide +kernel) rfl)
set_option maxRecDepth 100000 in
theorem s_15_212 (hC : SndC g HB l MM call) (hex : HB.size = g.1) : Snd g HB l call cX12_init 1 yX12_init.cls yX12_init.name 212 (s_newa 0 214) := h_newa hex (t := 0) (by decide) rfl (tin 1 82 (by decide +kernel) rfl) (by decide +kernel : decode cX12_init 212 = .ok (.newarray .int, 2)) rfl
set_option maxRecDepth 100000 in
theorem s_15_214 (hC : SndC g HB l MM call) : Snd g HB l call cX12_init 1 yX12_init.cls yX12_init.name 214 (s_put 10 39 3 217) := h_putF (k := 39) (C := RX12) (T := TX12) (N := 70) (ci := 10) rfl (by decide) rfl rfl rfl (Or.inr ⟨_, rfl⟩) (tin 6 201 (by decide +kernel) rfl) (by decide +kernel : decode cX12_init 214 = .ok (.putfield 88, 3)) rfl
set_option maxRecDepth 100000 in
theorem s_15_217 (hC : SndC g HB l MM call) : Snd g HB l call cX12_init 1 yX12_init.cls yX12_init.name 217 (lf (q_load isR 0 218)) := lf_ok (p_aload_n (by decide +kernel : decode cX12_init 217 = .ok (.aload_n 0, 1)) rfl rfl)
set_option maxRecDepth 100000 in
theorem s_15_218 (hC : SndC g HB l MM call) : Snd g HB l call cX12_init 1 yX12_init.cls yX12_init.name 218 (lf (q_push (.inl 1200) 221)) := lf_ok (p_sipush (by decide +kernel : decode cX12_init 218 = .ok (.sipush 1200, 3)) (by decide +kernel) rfl)
set_option maxRecDepth 100000 in
theorem s_15_221 (hC : SndC g HB l MM call) (hex : HB.size = g.1) : Snd g HB l call cX12_init 1 yX12_init.cls yX12_init.name 221 (s_newa 0 223) := h_newa hex (t := 0) (by decide) rfl (tin 1 82 (by decide +kernel) rfl) (by decide +kernel : decode cX12_init 221 = .ok (.newarray .int, 2)) rfl
set_option maxRecDepth 100000 in
theorem s_15_223 (hC : SndC g HB l MM call) : Snd g HB l call cX12_init 1 yX12_init.cls yX12_init.name 223 (s_put 10 40 3 226) := h_putF (k := 40) (C := RX12) (T := TX12) (N := 70) (ci := 10) rfl (by decide) rfl rfl rfl (Or.inr ⟨_, rfl⟩) (tin 6 202 (by decide +kernel) rfl) (by decide +kernel : decode cX12_init 223 = .ok (.putfield 91, 3)) rfl
set_option maxRecDepth 100000 in
theorem s_15_226 (hC : SndC g HB l MM call) : Snd g HB l call cX12_init 1 yX12_init.cls yX12_init.name 226 (lf (q_load isR 0 227)) := lf_ok (p_aload_n (by decide +kernel : decode cX12_init 226 = .ok (.aload_n 0, 1)) rfl rfl)
set_option maxRecDepth 100000 in
theorem s_15_227 (hC : SndC g HB l MM call) : Snd g HB l call cX12_init 1 yX12_init.cls yX12_init.name 227 (lf (q_push (.inl 1200) 230)) := lf_ok (p_sipush (by decide +kernel : decode cX12_init 227 = .ok (.sipush 1200, 3)) (by decide +kernel) rfl)
set_option maxRecDepth 100000 in
theorem s_15_230 (hC : SndC g HB l MM call) (hex : HB.size = g.1) : Snd g HB l call cX12_init 1 yX12_init.cls yX12_init.name 230 (s_newa 0 232) := h_newa hex (t := 0) (by decide) rfl (tin 1 82 (by decide +kernel) rfl) (by decide +kernel : decode cX12_init 230 = .ok (.newarray .int, 2)) rfl
set_option maxRecDepth 100000 in
theorem s_15_232 (hC : SndC g HB l MM call) : Snd g HB l call cX12_init 1 yX12_init.cls yX12_init.name 232 (s_put 10 41 3 235) := h_putF (k := 41) (C := RX12) (T := TX12) (N := 70) (ci := 10) rfl (by decide) rfl rfl rfl (Or.inr ⟨_, rfl⟩) (tin 6 203 (by decide +kernel) rfl) (by decide +kernel : decode cX12_init 232 = .ok (.putfield 94, 3)) rfl
set_option maxRecDepth 100000 in
theorem s_15_235 (hC : SndC g HB l MM call) : Snd g HB l call cX12_init 1 yX12_init.cls yX12_init.name 235 (lf (q_load isR 0 236)) := lf_ok (p_aload_n (by decide +kernel : decode cX12_init 235 = .ok (.aload_n 0, 1)) rfl rfl)
set_option maxRecDepth 100000 in
theorem s_15_236 (hC : SndC g HB l MM call) : Snd g HB l call cX12_init 1 yX12_init.cls yX12_init.name 236 (lf (q_push (.inl 200) 239)) := lf_ok (p_sipush (by decide +kernel : decode cX12_init 236 = .ok (.sipush 200, 3)) (by decide +kernel) rfl)
set_option maxRecDepth 100000 in
theorem s_15_239 (hC : SndC g HB l MM call) (hex : HB.size = g.1) : Snd g HB l call cX12_init 1 yX12_init.cls yX12_init.name 239 (s_newa 0 241) := h_newa hex (t := 0) (by decide) rfl (tin 1 82 (by decide +kernel) rfl) (by decide +kernel : decode cX12_init 239 = .ok (.newarray .int, 2)) rfl
set_option maxRecDepth 100000 in
theorem s_15_241 (hC : SndC g HB l MM call) : Snd g HB l call cX12_init 1 yX12_init.cls yX12_init.name 241 (s_put 10 42 3 244) := h_putF (k := 42) (C := RX12) (T := TX12) (N := 70) (ci := 10) rfl (by decide) rfl rfl rfl (Or.inr ⟨_, rfl⟩) (tin 6 204 (by decide +kernel) rfl) (by decide +kernel : decode cX12_init 241 = .ok (.putfield 97, 3)) rfl
set_option maxRecDepth 100000 in
theorem s_15_244 (hC : SndC g HB l MM call) : Snd g HB l call cX12_init 1 yX12_init.cls yX12_init.name 244 (lf (q_load isR 0 245)) := lf_ok (p_aload_n (by decide +kernel : decode cX12_init 244 = .ok (.aload_n 0, 1)) rfl rfl)
set_option maxRecDepth 100000 in
theorem s_15_245 (hC : SndC g HB l MM call) : Snd g HB l call cX12_init 1 yX12_init.cls yX12_init.name 245 (lf (q_push (.inl 1200) 248)) := lf_ok (p_sipush (by decide +kernel : decode cX12_init 245 = .ok (.sipush 1200, 3)) (by decide +kernel) rfl)
set_option maxRecDepth 100000 in
theorem s_15_248 (hC : SndC g HB l MM call) (hex : HB.size = g.1) : Snd g HB l call cX12_init 1 yX12_init.cls yX12_init.name 248 (s_newa 1 250) := h_newa hex (t := 1) (by decide) rfl (tin 1 53 (by decide +kernel) rfl) (by decide +kernel : decode cX12_init 248 = .ok (.newarray .byte, 2)) rfl
set_option maxRecDepth 100000 in
theorem s_15_250 (hC : SndC g HB l MM call) : Snd g HB l call cX12_init 1 yX12_init.cls yX12_init.name 250 (s_put 10 43 3 253) := h_putF (k := 43) (C := RX12) (T := TX12) (N := 70) (ci := 10) rfl (by decide) rfl rfl rfl (Or.inr ⟨_, rfl⟩) (tin 6 205 (by decide +kernel) rfl) (by decide +kernel : decode cX12_init 250 = .ok (.putfield 100, 3)) rfl
set_option maxRecDepth 100000 in
theorem s_15_253 (hC : SndC g HB l MM call) : Snd g HB l call cX12_init 1 yX12_init.cls yX12_init.name 253 (lf (q_load isR 0 254)) := lf_ok (p_aload_n (by decide +kernel : decode cX12_init 253 = .ok (.aload_n 0, 1)) rfl rfl)
set_option maxRecDepth 100000 in
theorem s_15_254 (hC : SndC g HB l MM call) : Snd g HB l call cX12_init 1 yX12_init.cls yX12_init.name 254 (lf (q_push (.inl 810) 257)) := lf_ok (p_sipush (by decide +kernel : decode cX12_init 254 = .ok (.sipush 810, 3)) (by decide +kernel) rfl)
set_option maxRecDepth 100000 in
theorem s_15_257 (hC : SndC g HB l MM call) (hex : HB.size = g.1) : Snd g HB l call cX12_init 1 yX12_init.cls yX12_init.name 257 (s_newa 0 259) := h_newa hex (t := 0) (by decide) rfl (tin 1 82 (by decide +kernel) rfl) (by decide +kernel : decode cX12_init 257 = .ok (.newarray .int, 2)) rfl
set_option maxRecDepth 100000 in
theorem s_15_259 (hC : SndC g HB l MM call) : Snd g HB l call cX12_init 1 yX12_init.cls yX12_init.name 259 (s_put 10 49 3 262) := h_putF (k := 49) (C := RX12) (T := TX12) (N := 70) (ci := 10) rfl (by decide) rfl rfl rfl (Or.inr ⟨_, rfl⟩) (tin 6 211 (by decide +kernel) rfl) (by decide +kernel : decode cX12_init 259 = .ok (.putfield 103, 3)) rfl
set_option maxRecDepth 100000 in
theorem s_15_262 (hC : SndC g HB l MM call) : Snd g HB l call cX12_init 1 yX12_init.cls yX12_init.name 262 (lf (q_load isR 0 263)) := lf_ok (p_aload_n (by decide +kernel : decode cX12_init 262 = .ok (.aload_n 0, 1)) rfl rfl)
set_option maxRecDepth 100000 in
theorem s_15_263 (hC : SndC g HB l MM call) : Snd g HB l call cX12_init 1 yX12_init.cls yX12_init.name 263 (lf (q_push (.inl 810) 266)) := lf_ok (p_sipush (by decide +kernel : decode cX12_init 263 = .ok (.sipush 810, 3)) (by decide +kernel) rfl)
set_option maxRecDepth 100000 in
theorem s_15_266 (hC : SndC g HB l MM call) (hex : HB.size = g.1) : Snd g HB l call cX12_init 1 yX12_init.cls yX12_init.name 266 (s_newa 0 268) := h_newa hex (t := 0) (by decide) rfl (tin 1 82 (by decide +kernel) rfl) (by decide +kernel : decode cX12_init 266 = .ok (.newarray .int, 2)) rfl
set_option maxRecDepth 100000 in
theorem s_15_268 (hC : SndC g HB l MM call) : Snd g HB l call cX12_init 1 yX12_init.cls yX12_init.name 268 (s_put 10 50 3 271) := h_putF (k := 50) (C := RX12) (T := TX12) (N := 70) (ci := 10) rfl (by decide) rfl rfl rfl (Or.inr ⟨_, rfl⟩) (tin 6 212 (by decide +kernel) rfl) (by decide +kernel : decode cX12_init 268 = .ok (.putfield 106, 3)) rfl
set_option maxRecDepth 100000 in
theorem s_15_271 (hC : SndC g HB l MM call) : Snd g HB l call cX12_init 1 yX12_init.cls yX12_init.name 271 (lf (q_load isR 0 272)) := lf_ok (p_aload_n (by decide +kernel : decode cX12_init 271 = .ok (.aload_n 0, 1)) rfl rfl)
set_option maxRecDepth 100000 in
theorem s_15_272 (hC : SndC g HB l MM call) : Snd g HB l call cX12_init 1 yX12_init.cls yX12_init.name 272 (lf (q_push (.inl 810) 275)) := lf_ok (p_sipush (by decide +kernel : decode cX12_init 272 = .ok (.sipush 810, 3)) (by decide +kernel) rfl)
set_option maxRecDepth 100000 in
theorem s_15_275 (hC : SndC g HB l MM call) (hex : HB.size = g.1) : Snd g HB l call cX12_init 1 yX12_init.cls yX12_init.name 275 (s_newa 0 277) := h_newa hex (t := 0) (by decide) rfl (tin 1 82 (by decide +kernel) rfl) (by decide +kernel : decode cX12_init 275 = .ok (.newarray .int, 2)) rfl
set_option maxRecDepth 100000 in
theorem s_15_277 (hC : SndC g HB l MM call) : Snd g HB l call cX12_init 1 yX12_init.cls yX12_init.name 277 (s_put 10 51 3 280) := h_putF (k := 51) (C := RX12) (T := TX12) (N := 70) (ci := 10) rfl (by decide) rfl rfl rfl (Or.inr ⟨_, rfl⟩) (tin 6 213 (by decide +kernel) rfl) (by decide +kernel : decode cX12_init 277 = .ok (.putfield 109, 3)) rfl
set_option maxRecDepth 100000 in
theorem s_15_280 (hC : SndC g HB l MM call) : Snd g HB l call cX12_init 1 yX12_init.cls yX12_init.name 280 (lf (q_load isR 0 281)) := lf_ok (p_aload_n (by decide +kernel : decode cX12_init 280 = .ok (.aload_n 0, 1)) rfl rfl)
set_option maxRecDepth 100000 in
theorem s_15_281 (hC : SndC g HB l MM call) : Snd g HB l call cX12_init 1 yX12_init.cls yX12_init.name 281 (lf (q_push (.inl 810) 284)) := lf_ok (p_sipush (by decide +kernel : decode cX12_init 281 = .ok (.sipush 810, 3)) (by decide +kernel) rfl)
set_option maxRecDepth 100000 in
theorem s_15_284 (hC : SndC g HB l MM call) (hex : HB.size = g.1) : Snd g HB l call cX12_init 1 yX12_init.cls yX12_init.name 284 (s_newa 2 286) := h_newa hex (t := 2) (by decide) rfl (tin 2 25 (by decide +kernel) rfl) (by decide +kernel : decode cX12_init 284 = .ok (.newarray .boolean, 2)) rfl
set_option maxRecDepth 100000 in
theorem s_15_286 (hC : SndC g HB l MM call) : Snd g HB l call cX12_init 1 yX12_init.cls yX12_init.name 286 (s_put 10 52 3 289) := h_putF (k := 52) (C := RX12) (T := TX12) (N := 70) (ci := 10) rfl (by decide) rfl rfl rfl (Or.inr ⟨_, rfl⟩) (tin 6 214 (by decide +kernel) rfl) (by decide +kernel : decode cX12_init 286 = .ok (.putfield 112, 3)) rfl
set_option maxRecDepth 100000 in
theorem s_15_289 (hC : SndC g HB l MM call) : Snd g HB l call cX12_init 1 yX12_init.cls yX12_init.name 289 (lf (q_load isR 0 290)) := lf_ok (p_aload_n (by decide +kernel : decode cX12_init 289 = .ok (.aload_n 0, 1)) rfl rfl)
set_option maxRecDepth 100000 in
theorem s_15_290 (hC : SndC g HB l MM call) : Snd g HB l call cX12_init 1 yX12_init.cls yX12_init.name 290 (lf (q_push (.inl 810) 293)) := lf_ok (p_sipush (by decide +kernel : decode cX12_init 290 = .ok (.sipush 810, 3)) (by decide +kernel) rfl)
set_option maxRecDepth 100000 in
theorem s_15_293 (hC : SndC g HB l MM call) (hex : HB.size = g.1) : Snd g HB l call cX12_init 1 yX12_init.cls yX12_init.name 293 (s_newa 3 295) := h_newa hex (t := 3) (by decide) rfl (tin 2 24 (by decide +kernel) rfl) (by decide +kernel : decode cX12_init 293 = .ok (.newarray .long, 2)) rfl
set_option maxRecDepth 100000 in
theorem s_15_295 (hC : SndC g HB l MM call) : Snd g HB l call cX12_init 1 yX12_init.cls yX12_init.name 295 (s_put 10 53 3 298) := h_putF (k := 53) (C := RX12) (T := TX12) (N := 70) (ci := 10) rfl (by decide) rfl rfl rfl (Or.inr ⟨_, rfl⟩) (tin 6 215 (by decide +kernel) rfl) (by decide +kernel : decode cX12_init 295 = .ok (.putfield 115, 3)) rfl
set_option maxRecDepth 100000 in
theorem s_15_298 (hC : SndC g HB l MM call) : Snd g HB l call cX12_init 1 yX12_init.cls yX12_init.name 298 (lf (q_load isR 0 299)) := lf_ok (p_aload_n (by decide +kernel : decode cX12_init 298 = .ok (.aload_n 0, 1)) rfl rfl)
set_option maxRecDepth 100000 in
theorem s_15_299 (hC : SndC g HB l MM call) : Snd g HB l call cX12_init 1 yX12_init.cls yX12_init.name 299 (lf (q_push (.inl 810) 302)) := lf_ok (p_sipush (by decide +kernel : decode cX12_init 299 = .ok (.sipush 810, 3)) (by decide +kernel) rfl)
set_option maxRecDepth 100000 in
theorem s_15_302 (hC : SndC g HB l MM call) (hex : HB.size = g.1) : Snd g HB l call cX12_init 1 yX12_init.cls yX12_init.name 302 (s_newa 3 304) := h_newa hex (t := 3) (by decide) rfl (tin 2 24 (by decide +kernel) rfl) (by decide +kernel : decode cX12_init 302 = .ok (.newarray .long, 2)) rfl
set_option maxRecDepth 100000 in
theorem s_15_304 (hC : SndC g HB l MM call) : Snd g HB l call cX12_init 1 yX12_init.cls yX12_init.name 304 (s_put 10 54 3 307) := h_putF (k := 54) (C := RX12) (T := TX12) (N := 70) (ci := 10) rfl (by decide) rfl rfl rfl (Or.inr ⟨_, rfl⟩) (tin 6 216 (by decide +kernel) rfl) (by decide +kernel : decode cX12_init 304 = .ok (.putfield 119, 3)) rfl
set_option maxRecDepth 100000 in
theorem s_15_307 (hC : SndC g HB l MM call) : Snd g HB l call cX12_init 1 yX12_init.cls yX12_init.name 307 (lf (q_load isR 0 308)) := lf_ok (p_aload_n (by decide +kernel : decode cX12_init 307 = .ok (.aload_n 0, 1)) rfl rfl)
set_option maxRecDepth 100000 in
theorem s_15_308 (hC : SndC g HB l MM call) : Snd g HB l call cX12_init 1 yX12_init.cls yX12_init.name 308 (lf (q_push (.inl 3000) 311)) := lf_ok (p_sipush (by decide +kernel : decode cX12_init 308 = .ok (.sipush 3000, 3)) (by decide +kernel) rfl)
set_option maxRecDepth 100000 in
theorem s_15_311 (hC : SndC g HB l MM call) (hex : HB.size = g.1) : Snd g HB l call cX12_init 1 yX12_init.cls yX12_init.name 311 (s_newa 0 313) := h_newa hex (t := 0) (by decide) rfl (tin 1 82 (by decide +kernel) rfl) (by decide +kernel : decode cX12_init 311 = .ok (.newarray .int, 2)) rfl
set_option maxRecDepth 100000 in
theorem s_15_313 (hC : SndC g HB l MM call) : Snd g HB l call cX12_init 1 yX12_init.cls yX12_init.name 313 (s_put 10 55 3 316) := h_putF (k := 55) (C := RX12) (T := TX12) (N := 70) (ci := 10) rfl (by decide) rfl rfl rfl (Or.inr ⟨_, rfl⟩) (tin 6 217 (by decide +kernel) rfl) (by decide +kernel : decode cX12_init 313 = .ok (.putfield 122, 3)) rfl
set_option maxRecDepth 100000 in
theorem s_15_316 (hC : SndC g HB l MM call) : Snd g HB l call cX12_init 1 yX12_init.cls yX12_init.name 316 (lf (q_load isR 0 317)) := lf_ok (p_aload_n (by decide +kernel : decode cX12_init 316 = .ok (.aload_n 0, 1)) rfl rfl)
set_option maxRecDepth 100000 in
theorem s_15_317 (hC : SndC g HB l MM call) : Snd g HB l call cX12_init 1 yX12_init.cls yX12_init.name 317 (lf (q_push (.inl 1300) 320)) := lf_ok (p_sipush (by decide +kernel : decode cX12_init 317 = .ok (.sipush 1300, 3)) (by decide +kernel) rfl)
set_option maxRecDepth 100000 in
theorem s_15_320 (hC : SndC g HB l MM call) (hex : HB.size = g.1) : Snd g HB l call cX12_init 1 yX12_init.cls yX12_init.name 320 (s_newa 0 322) := h_newa hex (t := 0) (by decide) rfl (tin 1 82 (by decide +kernel) rfl) (by decide +kernel : decode cX12_init 320 = .ok (.newarray .int, 2)) rfl
set_option maxRecDepth 100000 in
theorem s_15_322 (hC : SndC g HB l MM call) : Snd g HB l call cX12_init 1 yX12_init.cls yX12_init.name 322 (s_put 10 56 3 325) := h_putF (k := 56) (C := RX12) (T := TX12) (N := 70) (ci := 10) rfl (by decide) rfl rfl rfl (Or.inr ⟨_, rfl⟩) (tin 6 218 (by decide +kernel) rfl) (by decide +kernel : decode cX12_init 322 = .ok (.putfield 125, 3)) rfl
set_option maxRecDepth 100000 in
theorem s_15_325 (hC : SndC g HB l MM call) : Snd g HB l call cX12_init 1 yX12_init.cls yX12_init.name 325 (lf (q_load isR 0 326)) := lf_ok (p_aload_n (by decide +kernel : decode cX12_init 325 = .ok (.aload_n 0, 1)) rfl rfl)
set_option maxRecDepth 100000 in
theorem s_15_326 (hC : SndC g HB l MM call) : Snd g HB l call cX12_init 1 yX12_init.cls yX12_init.name 326 (lf (q_push (.inl 1300) 329)) := lf_ok (p_sipush (by decide +kernel : decode cX12_init 326 = .ok (.sipush 1300, 3)) (by decide +kernel) rfl)
set_option maxRecDepth 100000 in
theorem s_15_329 (hC : SndC g HB l MM call) (hex : HB.size = g.1) : Snd g HB l call cX12_init 1 yX12_init.cls yX12_init.name 329 (s_newa 2 331) := h_newa hex (t := 2) (by decide) rfl (tin 2 25 (by decide +kernel) rfl) (by decide +kernel : decode cX12_init 329 = .ok (.newarray .boolean, 2)) rfl
set_option maxRecDepth 100000 in
theorem s_15_331 (hC : SndC g HB l MM call) : Snd g HB l call cX12_init 1 yX12_init.cls yX12_init.name 331 (s_put 10 57 3 334) := h_putF (k := 57) (C := RX12) (T := TX12) (N := 70) (ci := 10) rfl (by decide) rfl rfl rfl (Or.inr ⟨_, rfl⟩) (tin 6 219 (by decide +kernel) rfl) (by decide +kernel : decode cX12_init 331 = .ok (.putfield 128, 3)) rfl
set_option maxRecDepth 100000 in
theorem s_15_334 (hC : SndC g HB l MM call) : Snd g HB l call cX12_init 1 yX12_init.cls yX12_init.name 334 (lf (q_load isR 0 335)) := lf_ok (p_aload_n (by decide +kernel : decode cX12_init 334 = .ok (.aload_n 0, 1)) rfl rfl)
set_option maxRecDepth 100000 in
theorem s_15_335 (hC : SndC g HB l MM call) : Snd g HB l call cX12_init 1 yX12_init.cls yX12_init.name 335 (lf (q_push (.inl 10240) 338)) := lf_ok (p_sipush (by decide +kernel : decode cX12_init 335 = .ok (.sipush 10240, 3)) (by decide +kernel) rfl)
set_option maxRecDepth 100000 in
theorem s_15_338 (hC : SndC g HB l MM call) (hex : HB.size = g.1) : Snd g HB l call cX12_init 1 yX12_init.cls yX12_init.name 338 (s_newa 1 340) := h_newa hex (t := 1) (by decide) rfl (tin 1 53 (by decide +kernel) rfl) (by decide +kernel : decode cX12_init 338 = .ok (.newarray .byte, 2)) rfl
set_option maxRecDepth 100000 in
theorem s_15_340 (hC : SndC g HB l MM call) : Snd g HB l call cX12_init 1 yX12_init.cls yX12_init.name 340 (s_put 10 58 3 343) := h_putF (k := 58) (C := RX12) (T := TX12) (N := 70) (ci := 10) rfl (by decide) rfl rfl rfl (Or.inr ⟨_, rfl⟩) (tin 6 220 (by decide +kernel) rfl) (by decide +kernel : decode cX12_init 340 = .ok (.putfield 131, 3)) rfl
set_option maxRecDepth 100000 in
theorem s_15_343 (hC : SndC g HB l MM call) : Snd g HB l call cX12_init 1 yX12_init.cls yX12_init.name 343 (lf (q_load isR 0 344)) := lf_ok (p_aload_n (by decide +kernel : decode cX12_init 343 = .ok (.aload_n 0, 1)) rfl rfl)
set_option maxRecDepth 100000 in
theorem s_15_344 (hC : SndC g HB l MM call) : Snd g HB l call cX12_init 1 yX12_init.cls yX12_init.name 344 (lf (q_push (.inl 640) 347)) := lf_ok (p_sipush (by decide +kernel : decode cX12_init 344 = .ok (.sipush 640, 3)) (by decide +kernel) rfl)
set_option maxRecDepth 100000 in
theorem s_15_347 (hC : SndC g HB l MM call) (hex : HB.size = g.1) : Snd g HB l call cX12_init 1 yX12_init.cls yX12_init.name 347 (s_newa 0 349) := h_newa hex (t := 0) (by decide) rfl (tin 1 82 (by decide +kernel) rfl) (by decide +kernel : decode cX12_init 347 = .ok (.newarray .int, 2)) rfl
set_option maxRecDepth 100000 in
theorem s_15_349 (hC : SndC g HB l MM call) : Snd g HB l call cX12_init 1 yX12_init.cls yX12_init.name 349 (s_put 10 59 3 352) := h_putF (k := 59) (C := RX12) (T := TX12) (N := 70) (ci := 10) rfl (by decide) rfl rfl rfl (Or.inr ⟨_, rfl⟩) (tin 6 221 (by decide +kernel) rfl) (by decide +kernel : decode cX12_init 349 = .ok (.putfield 134, 3)) rfl
set_option maxRecDepth 100000 in
theorem s_15_352 (hC : SndC g HB l MM call) : Snd g HB l call cX12_init 1 yX12_init.cls yX12_init.name 352 (lf (q_load isR 0 353)) := lf_ok (p_aload_n (by decide +kernel : decode cX12_init 352 = .ok (.aload_n 0, 1)) rfl rfl)
set_option maxRecDepth 100000 in
theorem s_15_353 (hC : SndC g HB l MM call) : Snd g HB l call cX12_init 1 yX12_init.cls yX12_init.name 353 (lf (q_push (.inl 200) 356)) := lf_ok (p_sipush (by decide +kernel : decode cX12_init 353 = .ok (.sipush 200, 3)) (by decide +kernel) rfl)
set_option maxRecDepth 100000 in
theorem s_15_356 (hC : SndC g HB l MM call) (hex : HB.size = g.1) : Snd g HB l call cX12_init 1 yX12_init.cls yX12_init.name 356 (s_newa 0 358) := h_newa hex (t := 0) (by decide) rfl (tin 1 82 (by decide +kernel) rfl) (by decide +kernel : decode cX12_init 356 = .ok (.newarray .int, 2)) rfl
set_option maxRecDepth 100000 in
theorem s_15_358 (hC : SndC g HB l MM call) : Snd g HB l call cX12_init 1 yX12_init.cls yX12_init.name 358 (s_put 10 64 3 361) := h_putF (k := 64) (C := RX12) (T := TX12) (N := 70) (ci := 10) rfl (by decide) rfl rfl rfl (Or.inr ⟨_, rfl⟩) (tin 6 225 (by decide +kernel) rfl) (by decide +kernel : decode cX12_init 358 = .ok (.putfield 137, 3)) rfl
set_option maxRecDepth 100000 in
theorem s_15_361 (hC : SndC g HB l MM call) : Snd g HB l call cX12_init 1 yX12_init.cls yX12_init.name 361 (lf (q_load isR 0 362)) := lf_ok (p_aload_n (by decide +kernel : decode cX12_init 361 = .ok (.aload_n 0, 1)) rfl rfl)
set_option maxRecDepth 100000 in
theorem s_15_362 (hC : SndC g HB l MM call) : Snd g HB l call cX12_init 1 yX12_init.cls yX12_init.name 362 (lf (q_push (.inl 200) 365)) := lf_ok (p_sipush (by decide +kernel : decode cX12_init 362 = .ok (.sipush 200, 3)) (by decide +kernel) rfl)
set_option maxRecDepth 100000 in
theorem s_15_365 (hC : SndC g HB l MM call) (hex : HB.size = g.1) : Snd g HB l call cX12_init 1 yX12_init.cls yX12_init.name 365 (s_newa 0 367) := h_newa hex (t := 0) (by decide) rfl (tin 1 82 (by decide +kernel) rfl) (by decide +kernel : decode cX12_init 365 = .ok (.newarray .int, 2)) rfl
set_option maxRecDepth 100000 in
theorem s_15_367 (hC : SndC g HB l MM call) : Snd g HB l call cX12_init 1 yX12_init.cls yX12_init.name 367 (s_put 10 65 3 370) := h_putF (k := 65) (C := RX12) (T := TX12) (N := 70) (ci := 10) rfl (by decide) rfl rfl rfl (Or.inr ⟨_, rfl⟩) (tin 6 226 (by decide +kernel) rfl) (by decide +kernel : decode cX12_init 367 = .ok (.putfield 140, 3)) rfl
set_option maxRecDepth 100000 in
theorem s_15_370 (hC : SndC g HB l MM call) : Snd g HB l call cX12_init 1 yX12_init.cls yX12_init.name 370 (lf (q_load isR 0 371)) := lf_ok (p_aload_n (by decide +kernel : decode cX12_init 370 = .ok (.aload_n 0, 1)) rfl rfl)
set_option maxRecDepth 100000 in
theorem s_15_371 (hC : SndC g HB l MM call) : Snd g HB l call cX12_init 1 yX12_init.cls yX12_init.name 371 (lf (q_push (.inl 200) 374)) := lf_ok (p_sipush (by decide +kernel : decode cX12_init 371 = .ok (.sipush 200, 3)) (by decide +kernel) rfl)
set_option maxRecDepth 100000 in
theorem s_15_374 (hC : SndC g HB l MM call) (hex : HB.size = g.1) : Snd g HB l call cX12_init 1 yX12_init.cls yX12_init.name 374 (s_newa 3 376) := h_newa hex (t := 3) (by decide) rfl (tin 2 24 (by decide +kernel) rfl) (by decide +kernel : decode cX12_init 374 = .ok (.newarray .long, 2)) rfl
set_option maxRecDepth 100000 in
theorem s_15_376 (hC : SndC g HB l MM call) : Snd g HB l call cX12_init 1 yX12_init.cls yX12_init.name 376 (s_put 10 66 3 379) := h_putF (k := 66) (C := RX12) (T := TX12) (N := 70) (ci := 10) rfl (by decide) rfl rfl rfl (Or.inr ⟨_, rfl⟩) (tin 6 227 (by decide +kernel) rfl) (by decide +kernel : decode cX12_init 376 = .ok (.putfield 143, 3)) rfl
set_option maxRecDepth 100000 in
theorem s_15_379 (hC : SndC g HB l MM call) : Snd g HB l call cX12_init 1 yX12_init.cls yX12_init.name 379 (lf (q_load isR 0 380)) := lf_ok (p_aload_n (by decide +kernel : decode cX12_init 379 = .ok (.aload_n 0, 1)) rfl rfl)
set_option maxRecDepth 100000 in
theorem s_15_380 (hC : SndC g HB l MM call) : Snd g HB l call cX12_init 1 yX12_init.cls yX12_init.name 380 (s_val (.inl 640000) 382) := m_ldc (x := 640000) (tin 6 160 (by decide +kernel) rfl) (by decide +kernel) (by decide +kernel : decode cX12_init 380 = .ok (.ldc 146, 2)) rfl
set_option maxRecDepth 100000 in
theorem s_15_382 (hC : SndC g HB l MM call) (hex : HB.size = g.1) : Snd g HB l call cX12_init 1 yX12_init.cls yX12_init.name 382 (s_newa 1 384) := h_newa hex (t := 1) (by decide) rfl (tin 1 53 (by decide +kernel) rfl) (by decide +kernel : decode cX12_init 382 = .ok (.newarray .byte, 2)) rfl
set_option maxRecDepth 100000 in
theorem s_15_384 (hC : SndC g HB l MM call) : Snd g HB l call cX12_init 1 yX12_init.cls yX12_init.name 384 (s_put 10 68 3 387) := h_putF (k := 68) (C := RX12) (T := TX12) (N := 70) (ci := 10) rfl (by decide) rfl rfl rfl (Or.inr ⟨_, rfl⟩) (tin 6 229 (by decide +kernel) rfl) (by decide +kernel : decode cX12_init 384 = .ok (.putfield 147, 3)) rfl
set_option maxRecDepth 100000 in
theorem s_15_387 (hC : SndC g HB l MM call) : Snd g HB l call cX12_init 1 yX12_init.cls yX12_init.name 387 (lf (q_load isR 0 388)) := lf_ok (p_aload_n (by decide +kernel : decode cX12_init 387 = .ok (.aload_n 0, 1)) rfl rfl)
set_option maxRecDepth 100000 in
theorem s_15_388 (hC : SndC g HB l MM call) : Snd g HB l call cX12_init 1 yX12_init.cls yX12_init.name 388 (s_val (.inl 40000) 390) := m_ldc (x := 40000) (tin 6 161 (by decide +kernel) rfl) (by decide +kernel) (by decide +kernel : decode cX12_init 388 = .ok (.ldc 150, 2)) rfl
set_option maxRecDepth 100000 in
theorem s_15_390 (hC : SndC g HB l MM call) (hex : HB.size = g.1) : Snd g HB l call cX12_init 1 yX12_init.cls yX12_init.name 390 (s_newa 0 392) := h_newa hex (t := 0) (by decide) rfl (tin 1 82 (by decide +kernel) rfl) (by decide +kernel : decode cX12_init 390 = .ok (.newarray .int, 2)) rfl
set_option maxRecDepth 100000 in
theorem s_15_392 (hC : SndC g HB l MM call) : Snd g HB l call cX12_init 1 yX12_init.cls yX12_init.name 392 (s_put 10 69 3 395) := h_putF (k := 69) (C := RX12) (T := TX12) (N := 70) (ci := 10) rfl (by decide) rfl rfl rfl (Or.inr ⟨_, rfl⟩) (tin 6 230 (by decide +kernel) rfl) (by decide +kernel : decode cX12_init 392 = .ok (.putfield 151, 3)) rfl
set_option maxRecDepth 100000 in
theorem ok_15 (hex : HB.size = g.1) (hC : SndC g HB l MM call) : ∀ x ∈ P_15, Snd g HB l call cX12_init 1 yX12_init.cls yX12_init.name x.1 x.2 := fa1 (s_15_0 hC) (fa1 (s_15_1 hC) (fa1 (s_15_4 hC) (fa1 (s_15_5 hC) (fa1 (s_15_7 hC hex) (fa1 (s_15_9 hC) (fa1 (s_15_12 hC) (fa1 (s_15_13 hC) (fa1 (s_15_16 hC hex) (fa1 (s_15_18 hC) (fa1 (s_15_21 hC) (fa1 (s_15_22 hC) (fa1 (s_15_24 hC hex) (fa1 (s_15_26 hC) (fa1 (s_15_29 hC) (fa1 (s_15_30 hC) (fa1 (s_15_33 hC hex) (fa1 (s_15_35 hC) (fa1 (s_15_38 hC) (fa1 (s_15_39 hC) (fa1 (s_15_42 hC hex) (fa1 (s_15_44 hC) (fa1 (s_15_47 hC) (fa1 (s_15_48 hC) (fa1 (s_15_51 hC hex) (fa1 (s_15_53 hC) (fa1 (s_15_56 hC) (fa1 (s_15_57 hC) (fa1 (s_15_60 hC hex) (fa1 (s_15_62 hC) (fa1 (s_15_65 hC) (fa1 (s_15_66 hC) (fa1 (s_15_69 hC hex) (fa1 (s_15_71 hC) (fa1 (s_15_74 hC) (fa1 (s_15_75 hC) (fa1 (s_15_76 hC) (fa1 (s_15_79 hC) (fa1 (s_15_80 hC) (fa1 (s_15_81 hC hex) (fa1 (s_15_83 hC) (fa1 (s_15_86 hC) (fa1 (s_15_87 hC) (fa1 (s_15_89 hC hex) (fa1 (s_15_91 hC) (fa1 (s_15_94 hC) (fa1 (s_15_95 hC) (fa1 (s_15_98 hC hex) (fa1 (s_15_100 hC) (fa1 (s_15_103 hC) (fa1 (s_15_104 hC) (fa1 (s_15_106 hC hex) (fa1 (s_15_108 hC) (fa1 (s_15_111 hC) (fa1 (s_15_112 hC) (fa1 (s_15_115 hC hex) (fa1 (s_15_117 hC) (fa1 (s_15_120 hC) (fa1 (s_15_121 hC) (fa1 (s_15_123 hC hex) (fa1 (s_15_125 hC) (fa1 (s_15_128 hC) (fa1 (s_15_129 hC) (fa1 (s_15_132 hC hex) (fa1 (s_15_134 hC) (fa1 (s_15_137 hC) (fa1 (s_15_138 hC) (fa1 (s_15_141 hC hex) (fa1 (s_15_143 hC) (fa1 (s_15_146 hC) (fa1 (s_15_147 hC) (fa1 (s_15_150 hC hex) (fa1 (s_15_152 hC) (fa1 (s_15_155 hC) (fa1 (s_15_156 hC) (fa1 (s_15_159 hC hex) (fa1 (s_15_161 hC) (fa1 (s_15_164 hC) (fa1 (s_15_165 hC) (fa1 (s_15_168 hC hex) (fa1 (s_15_170 hC) (fa1 (s_15_173 hC) (fa1 (s_15_174 hC) (fa1 (s_15_177 hC hex) (fa1 (s_15_179 hC) (fa1 (s_15_182 hC) (fa1 (s_15_183 hC) (fa1 (s_15_186 hC hex) (fa1 (s_15_188 hC) (fa1 (s_15_191 hC) (fa1 (s_15_192 hC) (fa1 (s_15_195 hC hex) (fa1 (s_15_197 hC) (fa1 (s_15_200 hC) (fa1 (s_15_201 hC) (fa1 (s_15_203 hC hex) (fa1 (s_15_205 hC) (fa1 (s_15_208 hC) (fa1 (s_15_209 hC) (fa1 (s_15_212 hC hex) (fa1 (s_15_214 hC) (fa1 (s_15_217 hC) (fa1 (s_15_218 hC) (fa1 (s_15_221 hC hex) (fa1 (s_15_223 hC) (fa1 (s_15_226 hC) (fa1 (s_15_227 hC) (fa1 (s_15_230 hC hex) (fa1 (s_15_232 hC) (fa1 (s_15_235 hC) (fa1 (s_15_236 hC) (fa1 (s_15_239 hC hex) (fa1 (s_15_241 hC) (fa1 (s_15_244 hC) (fa1 (s_15_245 hC) (fa1 (s_15_248 hC hex) (fa1 (s_15_250 hC) (fa1 (s_15_253 hC) (fa1 (s_15_254 hC) (fa1 (s_15_257 hC hex) (fa1 (s_15_259 hC) (fa1 (s_15_262 hC) (fa1 (s_15_263 hC) (fa1 (s_15_266 hC hex) (fa1 (s_15_268 hC) (fa1 (s_15_271 hC) (fa1 (s_15_272 hC) (fa1 (s_15_275 hC hex) (fa1 (s_15_277 hC) (fa1 (s_15_280 hC) (fa1 (s_15_281 hC) (fa1 (s_15_284 hC hex) (fa1 (s_15_286 hC) (fa1 (s_15_289 hC) (fa1 (s_15_290 hC) (fa1 (s_15_293 hC hex) (fa1 (s_15_295 hC) (fa1 (s_15_298 hC) (fa1 (s_15_299 hC) (fa1 (s_15_302 hC hex) (fa1 (s_15_304 hC) (fa1 (s_15_307 hC) (fa1 (s_15_308 hC) (fa1 (s_15_311 hC hex) (fa1 (s_15_313 hC) (fa1 (s_15_316 hC) (fa1 (s_15_317 hC) (fa1 (s_15_320 hC hex) (fa1 (s_15_322 hC) (fa1 (s_15_325 hC) (fa1 (s_15_326 hC) (fa1 (s_15_329 hC hex) (fa1 (s_15_331 hC) (fa1 (s_15_334 hC) (fa1 (s_15_335 hC) (fa1 (s_15_338 hC hex) (fa1 (s_15_340 hC) (fa1 (s_15_343 hC) (fa1 (s_15_344 hC) (fa1 (s_15_347 hC hex) (fa1 (s_15_349 hC) (fa1 (s_15_352 hC) (fa1 (s_15_353 hC) (fa1 (s_15_356 hC hex) (fa1 (s_15_358 hC) (fa1 (s_15_361 hC) (fa1 (s_15_362 hC) (fa1 (s_15_365 hC hex) (fa1 (s_15_367 hC) (fa1 (s_15_370 hC) (fa1 (s_15_371 hC) (fa1 (s_15_374 hC hex) (fa1 (s_15_376 hC) (fa1 (s_15_379 hC) (fa1 (s_15_380 hC) (fa1 (s_15_382 hC hex) (fa1 (s_15_384 hC) (fa1 (s_15_387 hC) (fa1 (s_15_388 hC) (fa1 (s_15_390 hC hex) (fa1 (s_15_392 hC) (fn1)))))))))))))))))))))))))))))))))))))))))))))))))))))))))))))))))))))))))))))))))))))))))))))))))))))))))))))))))))))))))))))))))))))))))))))))))))))))))))))))))))))))))))))))))))))
set_option maxRecDepth 100000 in
theorem ms_15 (hex : HB.size = g.1) : MSnd g HB l MM D_15 := ⟨by decide +kernel, fun _ hC => ok_15 hex hC, fa1 (show endOK cX12_init none 395 0 from ⟨rfl, (by decide +kernel : decode cX12_init 395 = .ok (.return_, 1))⟩) (fn1)⟩
set_option maxRecDepth 100000 in
theorem s_16_0 (hC : SndC g HB l MM call) : Snd g HB l call cX11_feed 6 yX11_feed.cls yX11_feed.name 0 (lf (q_load isR 0 1)) := lf_ok (p_aload_n (by decide +kernel : decode cX11_feed 0 = .ok (.aload_n 0, 1)) rfl rfl)
set_option maxRecDepth 100000 in
theorem s_16_1 (hC : SndC g HB l MM call) : Snd g HB l call cX11_feed 6 yX11_feed.cls yX11_feed.name 1 (lf (q_load isI 1 2)) := lf_ok (p_iload_n (by decide +kernel : decode cX11_feed 1 = .ok (.iload_n 1, 1)) rfl rfl)
set_option maxRecDepth 100000 in
theorem s_16_2 (hC : SndC g HB l MM call) : Snd g HB l call cX11_feed 6 yX11_feed.cls yX11_feed.name 2 (lf (q_load isI 2 3)) := lf_ok (p_iload_n (by decide +kernel : decode cX11_feed 2 = .ok (.iload_n 2, 1)) rfl rfl)
set_option maxRecDepth 100000 in
theorem s_16_3 (hC : SndC g HB l MM call) : Snd g HB l call cX11_feed 6 yX11_feed.cls yX11_feed.name 3 (lf (q_load isI 3 4)) := lf_ok (p_iload_n (by decide +kernel : decode cX11_feed 3 = .ok (.iload_n 3, 1)) rfl rfl)
set_option maxRecDepth 100000 in
theorem s_16_4 (hC : SndC g HB l MM call) : Snd g HB l call cX11_feed 6 yX11_feed.cls yX11_feed.name 4 (lf (q_load isI 4 6)) := lf_ok (p_iload (by decide +kernel : decode cX11_feed 4 = .ok (.iload 4, 2)) rfl)
set_option maxRecDepth 100000 in
theorem s_16_6 (hC : SndC g HB l MM call) : Snd g HB l call cX11_feed 6 yX11_feed.cls yX11_feed.name 6 (lf (q_load isI 5 8)) := lf_ok (p_iload (by decide +kernel : decode cX11_feed 6 = .ok (.iload 5, 2)) rfl)
set_option maxRecDepth 100000 in
theorem s_16_8 (hC : SndC g HB l MM call) : Snd g HB l call cX11_feed 6 yX11_feed.cls yX11_feed.name 8 (s_cV 9 11 5 25 11) := c_V (C := RX11) (T := TX11) (N := 17) (ci := 9) rfl hC (M := MM) (id := 11) (d := D_11) rfl mok_11 rfl rfl (tin 2 79 (by decide +kernel) rfl) (tin 2 81 (by decide +kernel) rfl) (tinP (y := mdY D_11) (n := 17) 0 (by decide +kernel)) (tin 1 1 (by decide +kernel) rfl) (by decide +kernel : decode cX11_feed 8 = .ok (.invokevirtual 81, 3)) rfl
set_option maxRecDepth 100000 in
theorem ok_16 (hex : HB.size = g.1) (hC : SndC g HB l MM call) : ∀ x ∈ P_16, Snd g HB l call cX11_feed 6 yX11_feed.cls yX11_feed.name x.1 x.2 := fa1 (s_16_0 hC) (fa1 (s_16_1 hC) (fa1 (s_16_2 hC) (fa1 (s_16_3 hC) (fa1 (s_16_4 hC) (fa1 (s_16_6 hC) (fa1 (s_16_8 hC) (fn1)))))))
set_option maxRecDepth 100000 in
theorem ms_16 (hex : HB.size = g.1) : MSnd g HB l MM D_16 := ⟨by decide +kernel, fun _ hC => ok_16 hex hC, fa1 (show endOK cX11_feed none 11 0 from ⟨rfl, (by decide +kernel : decode cX11_feed 11 = .ok (.return_, 1))⟩) (fn1)⟩
set_option maxRecDepth 100000 in
theorem s_17_0 (hC : SndC g HB l MM call) : Snd g HB l call cX11_end 2 yX11_end.cls yX11_end.name 0 (lf (q_load isI 1 1)) := lf_ok (p_iload_n (by decide +kernel : decode cX11_end 0 = .ok (.iload_n 1, 1)) rfl rfl)
set_option maxRecDepth 100000 in
theorem s_17_1 (hC : SndC g HB l MM call) : Snd g HB l call cX11_end 2 yX11_end.cls yX11_end.name 1 (s_br1 2 25 4) := b_lt (by decide +kernel : decode cX11_end 1 = .ok (.ifCond .lt 24, 3)) (by decide) rfl
set_option maxRecDepth 100000 in
theorem s_17_4 (hC : SndC g HB l MM call) : Snd g HB l call cX11_end 2 yX11_end.cls yX11_end.name 4 (lf (q_load isI 1 5)) := lf_ok (p_iload_n (by decide +kernel : decode cX11_end 4 = .ok (.iload_n 1, 1)) rfl rfl)
set_option maxRecDepth 100000 in
theorem s_17_5 (hC : SndC g HB l MM call) : Snd g HB l call cX11_end 2 yX11_end.cls yX11_end.name 5 (lf (q_push (.inl 20) 7)) := lf_ok (p_bipush (by decide +kernel : decode cX11_end 5 = .ok (.bipush 20, 2)) (by decide +kernel) rfl)
set_option maxRecDepth 100000 in
theorem s_17_7 (hC : SndC g HB l MM call) : Snd g HB l call cX11_end 2 yX11_end.cls yX11_end.name 7 (s_br2 4 25 10) := b_igt (by decide +kernel : decode cX11_end 7 = .ok (.if_icmp .gt 18, 3)) (by decide) rfl
set_option maxRecDepth 100000 in
theorem s_17_10 (hC : SndC g HB l MM call) : Snd g HB l call cX11_end 2 yX11_end.cls yX11_end.name 10 (lf (q_load isR 0 11)) := lf_ok (p_aload_n (by decide +kernel : decode cX11_end 10 = .ok (.aload_n 0, 1)) rfl rfl)
set_option maxRecDepth 100000 in
theorem s_17_11 (hC : SndC g HB l MM call) : Snd g HB l call cX11_end 2 yX11_end.cls yX11_end.name 11 (s_get 9 1 14) := h_get (k := 1) (C := RX11) (T := TX11) (N := 17) (ci := 9) rfl (by decide) (tin 2 96 (by decide +kernel) rfl)  (by decide +kernel : decode cX11_end 11 = .ok (.getfield 18, 3)) rfl
set_option maxRecDepth 100000 in
theorem s_17_14 (hC : SndC g HB l MM call) : Snd g HB l call cX11_end 2 yX11_end.cls yX11_end.name 14 (s_cV 2 18 0 20 17) := c_V (C := RX1) (T := TX1) (N := 2) (ci := 2) rfl hC (M := MM) (id := 18) (d := D_18) rfl mok_18 rfl rfl (tin 2 155 (by decide +kernel) rfl) (tin 2 156 (by decide +kernel) rfl) (tin 2 157 (by decide +kernel) rfl) (tin 1 2 (by decide +kernel) rfl) (by decide +kernel : decode cX11_end 14 = .ok (.invokevirtual 85, 3)) rfl
set_option maxRecDepth 100000 in
theorem s_17_17 (hC : SndC g HB l MM call) : Snd g HB l call cX11_end 2 yX11_end.cls yX11_end.name 17 (lf (q_load isI 1 18)) := lf_ok (p_iload_n (by decide +kernel : decode cX11_end 17 = .ok (.iload_n 1, 1)) rfl rfl)
set_option maxRecDepth 100000 in
theorem s_17_18 (hC : SndC g HB l MM call) : Snd g HB l call cX11_end 2 yX11_end.cls yX11_end.name 18 (lf (q_bin (iop2 (fun x y => x + y)) 19)) := lf_ok (p_iadd (by decide +kernel : decode cX11_end 18 = .ok (.iadd, 1)) rfl)
set_option maxRecDepth 100000 in
theorem s_17_19 (hC : SndC g HB l MM call) : Snd g HB l call cX11_end 2 yX11_end.cls yX11_end.name 19 (lf (q_push (.inl 1200) 22)) := lf_ok (p_sipush (by decide +kernel : decode cX11_end 19 = .ok (.sipush 1200, 3)) (by decide +kernel) rfl)
set_option maxRecDepth 100000 in
theorem s_17_22 (hC : SndC g HB l MM call) : Snd g HB l call cX11_end 2 yX11_end.cls yX11_end.name 22 (s_br2 5 27 25) := b_ile (by decide +kernel : decode cX11_end 22 = .ok (.if_icmp .le 5, 3)) (by decide) rfl
set_option maxRecDepth 100000 in
theorem s_17_25 (hC : SndC g HB l MM call) : Snd g HB l call cX11_end 2 yX11_end.cls yX11_end.name 25 (lf (q_push (.inl 4294967295) 26)) := lf_ok (p_iconst (by decide +kernel : decode cX11_end 25 = .ok (.iconst (-1), 1)) (by decide +kernel) rfl)
set_option maxRecDepth 100000 in
theorem s_17_27 (hC : SndC g HB l MM call) : Snd g HB l call cX11_end 2 yX11_end.cls yX11_end.name 27 (lf (q_load isR 0 28)) := lf_ok (p_aload_n (by decide +kernel : decode cX11_end 27 = .ok (.aload_n 0, 1)) rfl rfl)
set_option maxRecDepth 100000 in
theorem s_17_28 (hC : SndC g HB l MM call) : Snd g HB l call cX11_end 2 yX11_end.cls yX11_end.name 28 (s_get 9 1 31) := h_get (k := 1) (C := RX11) (T := TX11) (N := 17) (ci := 9) rfl (by decide) (tin 2 96 (by decide +kernel) rfl)  (by decide +kernel : decode cX11_end 28 = .ok (.getfield 18, 3)) rfl
set_option maxRecDepth 100000 in
theorem s_17_31 (hC : SndC g HB l MM call) : Snd g HB l call cX11_end 2 yX11_end.cls yX11_end.name 31 (lf (q_load isR 0 32)) := lf_ok (p_aload_n (by decide +kernel : decode cX11_end 31 = .ok (.aload_n 0, 1)) rfl rfl)
set_option maxRecDepth 100000 in
theorem s_17_32 (hC : SndC g HB l MM call) : Snd g HB l call cX11_end 2 yX11_end.cls yX11_end.name 32 (s_get 9 0 35) := h_get (k := 0) (C := RX11) (T := TX11) (N := 17) (ci := 9) rfl (by decide) (tin 2 95 (by decide +kernel) rfl)  (by decide +kernel : decode cX11_end 32 = .ok (.getfield 14, 3)) rfl
set_option maxRecDepth 100000 in
theorem s_17_35 (hC : SndC g HB l MM call) : Snd g HB l call cX11_end 2 yX11_end.cls yX11_end.name 35 (lf (q_push (.inl 0) 36)) := lf_ok (p_iconst (by decide +kernel : decode cX11_end 35 = .ok (.iconst 0, 1)) (by decide +kernel) rfl)
set_option maxRecDepth 100000 in
theorem s_17_36 (hC : SndC g HB l MM call) : Snd g HB l call cX11_end 2 yX11_end.cls yX11_end.name 36 (lf (q_load isI 1 37)) := lf_ok (p_iload_n (by decide +kernel : decode cX11_end 36 = .ok (.iload_n 1, 1)) rfl rfl)
set_option maxRecDepth 100000 in
theorem s_17_37 (hC : SndC g HB l MM call) : Snd g HB l call cX11_end 2 yX11_end.cls yX11_end.name 37 (s_cV 2 19 3 24 40) := c_V (C := RX1) (T := TX1) (N := 2) (ci := 2) rfl hC (M := MM) (id := 19) (d := D_19) rfl mok_19 rfl rfl (tin 2 159 (by decide +kernel) rfl) (tin 2 160 (by decide +kernel) rfl) (tin 2 161 (by decide +kernel) rfl) (tin 1 2 (by decide +kernel) rfl) (by decide +kernel : decode cX11_end 37 = .ok (.invokevirtual 89, 3)) rfl
set_option maxRecDepth 100000 in
theorem s_17_40 (hC : SndC g HB l MM call) : Snd g HB l call cX11_end 2 yX11_end.cls yX11_end.name 40 (lf (q_load isR 0 41)) := lf_ok (p_aload_n (by decide +kernel : decode cX11_end 40 = .ok (.aload_n 0, 1)) rfl rfl)
set_option maxRecDepth 100000 in
theorem s_17_41 (hC : SndC g HB l MM call) : Snd g HB l call cX11_end 2 yX11_end.cls yX11_end.name 41 (lf (q_push (.inl 0) 42)) := lf_ok (p_iconst (by decide +kernel : decode cX11_end 41 = .ok (.iconst 0, 1)) (by decide +kernel) rfl)
set_option maxRecDepth 100000 in
theorem s_17_42 (hC : SndC g HB l MM call) : Snd g HB l call cX11_end 2 yX11_end.cls yX11_end.name 42 (lf (q_push (.inl 0) 43)) := lf_ok (p_iconst (by decide +kernel : decode cX11_end 42 = .ok (.iconst 0, 1)) (by decide +kernel) rfl)
set_option maxRecDepth 100000 in
theorem s_17_43 (hC : SndC g HB l MM call) : Snd g HB l call cX11_end 2 yX11_end.cls yX11_end.name 43 (lf (q_push (.inl 0) 44)) := lf_ok (p_iconst (by decide +kernel : decode cX11_end 43 = .ok (.iconst 0, 1)) (by decide +kernel) rfl)
set_option maxRecDepth 100000 in
theorem s_17_44 (hC : SndC g HB l MM call) : Snd g HB l call cX11_end 2 yX11_end.cls yX11_end.name 44 (lf (q_push (.inl 0) 45)) := lf_ok (p_iconst (by decide +kernel : decode cX11_end 44 = .ok (.iconst 0, 1)) (by decide +kernel) rfl)
set_option maxRecDepth 100000 in
theorem s_17_45 (hC : SndC g HB l MM call) : Snd g HB l call cX11_end 2 yX11_end.cls yX11_end.name 45 (lf (q_push (.inl 0) 46)) := lf_ok (p_iconst (by decide +kernel : decode cX11_end 45 = .ok (.iconst 0, 1)) (by decide +kernel) rfl)
set_option maxRecDepth 100000 in
theorem s_17_46 (hC : SndC g HB l MM call) : Snd g HB l call cX11_end 2 yX11_end.cls yX11_end.name 46 (s_cV 9 11 5 25 49) := c_V (C := RX11) (T := TX11) (N := 17) (ci := 9) rfl hC (M := MM) (id := 11) (d := D_11) rfl mok_11 rfl rfl (tin 2 79 (by decide +kernel) rfl) (tin 2 81 (by decide +kernel) rfl) (tinP (y := mdY D_11) (n := 17) 0 (by decide +kernel)) (tin 1 1 (by decide +kernel) rfl) (by decide +kernel : decode cX11_end 46 = .ok (.invokevirtual 81, 3)) rfl
set_option maxRecDepth 100000 in
theorem s_17_49 (hC : SndC g HB l MM call) : Snd g HB l call cX11_end 2 yX11_end.cls yX11_end.name 49 (lf (q_load isR 0 50)) := lf_ok (p_aload_n (by decide +kernel : decode cX11_end 49 = .ok (.aload_n 0, 1)) rfl rfl)
set_option maxRecDepth 100000 in
theorem s_17_50 (hC : SndC g HB l MM call) : Snd g HB l call cX11_end 2 yX11_end.cls yX11_end.name 50 (s_get 9 1 53) := h_get (k := 1) (C := RX11) (T := TX11) (N := 17) (ci := 9) rfl (by decide) (tin 2 96 (by decide +kernel) rfl)  (by decide +kernel : decode cX11_end 50 = .ok (.getfield 18, 3)) rfl
set_option maxRecDepth 100000 in
theorem s_17_53 (hC : SndC g HB l MM call) : Snd g HB l call cX11_end 2 yX11_end.cls yX11_end.name 53 (s_cV 2 18 0 20 56) := c_V (C := RX1) (T := TX1) (N := 2) (ci := 2) rfl hC (M := MM) (id := 18) (d := D_18) rfl mok_18 rfl rfl (tin 2 155 (by decide +kernel) rfl) (tin 2 156 (by decide +kernel) rfl) (tin 2 157 (by decide +kernel) rfl) (tin 1 2 (by decide +kernel) rfl) (by decide +kernel : decode cX11_end 53 = .ok (.invokevirtual 85, 3)) rfl
set_option maxRecDepth 100000 in
theorem ok_17 (hex : HB.size = g.1) (hC : SndC g HB l MM call) : ∀ x ∈ P_17, Snd g HB l call cX11_end 2 yX11_end.cls yX11_end.name x.1 x.2 := fa1 (s_17_0 hC) (fa1 (s_17_1 hC) (fa1 (s_17_4 hC) (fa1 (s_17_5 hC) (fa1 (s_17_7 hC) (fa1 (s_17_10 hC) (fa1 (s_17_11 hC) (fa1 (s_17_14 hC) (fa1 (s_17_17 hC) (fa1 (s_17_18 hC) (fa1 (s_17_19 hC) (fa1 (s_17_22 hC) (fa1 (s_17_25 hC) (fa1 (s_17_27 hC) (fa1 (s_17_28 hC) (fa1 (s_17_31 hC) (fa1 (s_17_32 hC) (fa1 (s_17_35 hC) (fa1 (s_17_36 hC) (fa1 (s_17_37 hC) (fa1 (s_17_40 hC) (fa1 (s_17_41 hC) (fa1 (s_17_42 hC) (fa1 (s_17_43 hC) (fa1 (s_17_44 hC) (fa1 (s_17_45 hC) (fa1 (s_17_46 hC) (fa1 (s_17_49 hC) (fa1 (s_17_50 hC) (fa1 (s_17_53 hC) (fn1))))))))))))))))))))))))))))))
set_option maxRecDepth 100000 in
theorem ms_17 (hex : HB.size = g.1) : MSnd g HB l MM D_17 := ⟨by decide +kernel, fun _ hC => ok_17 hex hC, fa1 (show endOK cX11_end (some .int) 26 1 from ⟨rfl, (by decide +kernel : decode cX11_end 26 = .ok (.ireturn, 1))⟩) (fa1 (show endOK cX11_end (some .int) 56 1 from ⟨rfl, (by decide +kernel : decode cX11_end 56 = .ok (.ireturn, 1))⟩) (fn1))⟩
set_option maxRecDepth 100000 in
theorem s_18_0 (hC : SndC g HB l MM call) : Snd g HB l call cX1_size 1 yX1_size.cls yX1_size.name 0 (lf (q_load isR 0 1)) := lf_ok (p_aload_n (by decide +kernel : decode cX1_size 0 = .ok (.aload_n 0, 1)) rfl rfl)
set_option maxRecDepth 100000 in
theorem s_18_1 (hC : SndC g HB l MM call) : Snd g HB l call cX1_size 1 yX1_size.cls yX1_size.name 1 (s_get 2 1 4) := h_get (k := 1) (C := RX1) (T := TX1) (N := 2) (ci := 2) rfl (by decide) (tin 1 47 (by decide +kernel) rfl)  (by decide +kernel : decode cX1_size 1 = .ok (.getfield 15, 3)) rfl
set_option maxRecDepth 100000 in
theorem ok_18 (hex : HB.size = g.1) (hC : SndC g HB l MM call) : ∀ x ∈ P_18, Snd g HB l call cX1_size 1 yX1_size.cls yX1_size.name x.1 x.2 := fa1 (s_18_0 hC) (fa1 (s_18_1 hC) (fn1))
set_option maxRecDepth 100000 in
theorem ms_18 (hex : HB.size = g.1) : MSnd g HB l MM D_18 := ⟨by decide +kernel, fun _ hC => ok_18 hex hC, fa1 (show endOK cX1_size (some .int) 4 1 from ⟨rfl, (by decide +kernel : decode cX1_size 4 = .ok (.ireturn, 1))⟩) (fn1)⟩
set_option maxRecDepth 100000 in
theorem s_19_0 (hC : SndC g HB l MM call) : Snd g HB l call cX1_putAll 5 yX1_putAll.cls yX1_putAll.name 0 (lf (q_load isI 2 1)) := lf_ok (p_iload_n (by decide +kernel : decode cX1_putAll 0 = .ok (.iload_n 2, 1)) rfl rfl)
set_option maxRecDepth 100000 in
theorem s_19_1 (hC : SndC g HB l MM call) : Snd g HB l call cX1_putAll 5 yX1_putAll.cls yX1_putAll.name 1 (lf (q_store isI up1 0 4 5 3)) := lf_ok (p_istore (by decide +kernel : decode cX1_putAll 1 = .ok (.istore 4, 2)) rfl)
set_option maxRecDepth 100000 in
theorem s_19_3 (hC : SndC g HB l MM call) : Snd g HB l call cX1_putAll 5 yX1_putAll.cls yX1_putAll.name 3 (lf (q_load isI 4 5)) := lf_ok (p_iload (by decide +kernel : decode cX1_putAll 3 = .ok (.iload 4, 2)) rfl)
set_option maxRecDepth 100000 in
theorem s_19_5 (hC : SndC g HB l MM call) : Snd g HB l call cX1_putAll 5 yX1_putAll.cls yX1_putAll.name 5 (lf (q_load isI 3 6)) := lf_ok (p_iload_n (by decide +kernel : decode cX1_putAll 5 = .ok (.iload_n 3, 1)) rfl rfl)
set_option maxRecDepth 100000 in
theorem s_19_6 (hC : SndC g HB l MM call) : Snd g HB l call cX1_putAll 5 yX1_putAll.cls yX1_putAll.name 6 (s_br2 3 25 9) := b_ige (by decide +kernel : decode cX1_putAll 6 = .ok (.if_icmp .ge 19, 3)) (by decide) rfl
set_option maxRecDepth 100000 in
theorem s_19_9 (hC : SndC g HB l MM call) : Snd g HB l call cX1_putAll 5 yX1_putAll.cls yX1_putAll.name 9 (lf (q_load isR 0 10)) := lf_ok (p_aload_n (by decide +kernel : decode cX1_putAll 9 = .ok (.aload_n 0, 1)) rfl rfl)
set_option maxRecDepth 100000 in
theorem s_19_10 (hC : SndC g HB l MM call) : Snd g HB l call cX1_putAll 5 yX1_putAll.cls yX1_putAll.name 10 (lf (q_load isR 1 11)) := lf_ok (p_aload_n (by decide +kernel : decode cX1_putAll 10 = .ok (.aload_n 1, 1)) rfl rfl)
set_option maxRecDepth 100000 in
theorem s_19_11 (hC : SndC g HB l MM call) : Snd g HB l call cX1_putAll 5 yX1_putAll.cls yX1_putAll.name 11 (lf (q_load isI 4 13)) := lf_ok (p_iload (by decide +kernel : decode cX1_putAll 11 = .ok (.iload 4, 2)) rfl)
set_option maxRecDepth 100000 in
theorem s_19_13 (hC : SndC g HB l MM call) : Snd g HB l call cX1_putAll 5 yX1_putAll.cls yX1_putAll.name 13 (s_cV 2 20 1 21 16) := c_V (C := RX1) (T := TX1) (N := 2) (ci := 2) rfl hC (M := MM) (id := 20) (d := D_20) rfl mok_20 rfl rfl (tin 2 163 (by decide +kernel) rfl) (tin 2 164 (by decide +kernel) rfl) (tin 2 165 (by decide +kernel) rfl) (tin 1 2 (by decide +kernel) rfl) (by decide +kernel : decode cX1_putAll 13 = .ok (.invokevirtual 23, 3)) rfl
set_option maxRecDepth 100000 in
theorem s_19_16 (hC : SndC g HB l MM call) : Snd g HB l call cX1_putAll 5 yX1_putAll.cls yX1_putAll.name 16 (s_cV 2 14 1 21 19) := c_V (C := RX1) (T := TX1) (N := 2) (ci := 2) rfl hC (M := MM) (id := 14) (d := D_14) rfl mok_14 rfl rfl (tin 2 91 (by decide +kernel) rfl) (tin 2 92 (by decide +kernel) rfl) (tin 2 93 (by decide +kernel) rfl) (tin 1 2 (by decide +kernel) rfl) (by decide +kernel : decode cX1_putAll 16 = .ok (.invokevirtual 19, 3)) rfl
set_option maxRecDepth 100000 in
theorem s_19_19 (hC : SndC g HB l MM call) : Snd g HB l call cX1_putAll 5 yX1_putAll.cls yX1_putAll.name 19 (lf (q_iinc 4 1 5 22)) := lf_ok (p_iinc (by decide +kernel : decode cX1_putAll 19 = .ok (.iinc 4 1, 3)) rfl)
set_option maxRecDepth 100000 in
theorem s_19_22 (hC : SndC g HB l MM call) : Snd g HB l call cX1_putAll 5 yX1_putAll.cls yX1_putAll.name 22 (lf (q_goto 3)) := lf_ok (p_goto (by decide +kernel : decode cX1_putAll 22 = .ok (.goto (-19), 3)) (by decide))
set_option maxRecDepth 100000 in
theorem ok_19 (hex : HB.size = g.1) (hC : SndC g HB l MM call) : ∀ x ∈ P_19, Snd g HB l call cX1_putAll 5 yX1_putAll.cls yX1_putAll.name x.1 x.2 := fa1 (s_19_0 hC) (fa1 (s_19_1 hC) (fa1 (s_19_3 hC) (fa1 (s_19_5 hC) (fa1 (s_19_6 hC) (fa1 (s_19_9 hC) (fa1 (s_19_10 hC) (fa1 (s_19_11 hC) (fa1 (s_19_13 hC) (fa1 (s_19_16 hC) (fa1 (s_19_19 hC) (fa1 (s_19_22 hC) (fn1))))))))))))
set_option maxRecDepth 100000 in
theorem ms_19 (hex : HB.size = g.1) : MSnd g HB l MM D_19 := ⟨by decide +kernel, fun _ hC => ok_19 hex hC, fa1 (show endOK cX1_putAll none 25 0 from ⟨rfl, (by decide +kernel : decode cX1_putAll 25 = .ok (.return_, 1))⟩) (fn1)⟩
set_option maxRecDepth 100000 in
theorem s_20_0 (hC : SndC g HB l MM call) : Snd g HB l call cX1_byteAt 2 yX1_byteAt.cls yX1_byteAt.name 0 (lf (q_load isI 1 1)) := lf_ok (p_iload_n (by decide +kernel : decode cX1_byteAt 0 = .ok (.iload_n 1, 1)) rfl rfl)
set_option maxRecDepth 100000 in
theorem s_20_1 (hC : SndC g HB l MM call) : Snd g HB l call cX1_byteAt 2 yX1_byteAt.cls yX1_byteAt.name 1 (s_br1 2 34 4) := b_lt (by decide +kernel : decode cX1_byteAt 1 = .ok (.ifCond .lt 33, 3)) (by decide) rfl
set_option maxRecDepth 100000 in
theorem s_20_4 (hC : SndC g HB l MM call) : Snd g HB l call cX1_byteAt 2 yX1_byteAt.cls yX1_byteAt.name 4 (lf (q_load isI 1 5)) := lf_ok (p_iload_n (by decide +kernel : decode cX1_byteAt 4 = .ok (.iload_n 1, 1)) rfl rfl)
set_option maxRecDepth 100000 in
theorem s_20_5 (hC : SndC g HB l MM call) : Snd g HB l call cX1_byteAt 2 yX1_byteAt.cls yX1_byteAt.name 5 (lf (q_load isR 0 6)) := lf_ok (p_aload_n (by decide +kernel : decode cX1_byteAt 5 = .ok (.aload_n 0, 1)) rfl rfl)
set_option maxRecDepth 100000 in
theorem s_20_6 (hC : SndC g HB l MM call) : Snd g HB l call cX1_byteAt 2 yX1_byteAt.cls yX1_byteAt.name 6 (s_get 2 1 9) := h_get (k := 1) (C := RX1) (T := TX1) (N := 2) (ci := 2) rfl (by decide) (tin 1 47 (by decide +kernel) rfl)  (by decide +kernel : decode cX1_byteAt 6 = .ok (.getfield 15, 3)) rfl
set_option maxRecDepth 100000 in
theorem s_20_9 (hC : SndC g HB l MM call) : Snd g HB l call cX1_byteAt 2 yX1_byteAt.cls yX1_byteAt.name 9 (s_br2 3 34 12) := b_ige (by decide +kernel : decode cX1_byteAt 9 = .ok (.if_icmp .ge 25, 3)) (by decide) rfl
set_option maxRecDepth 100000 in
theorem s_20_12 (hC : SndC g HB l MM call) : Snd g HB l call cX1_byteAt 2 yX1_byteAt.cls yX1_byteAt.name 12 (lf (q_load isI 1 13)) := lf_ok (p_iload_n (by decide +kernel : decode cX1_byteAt 12 = .ok (.iload_n 1, 1)) rfl rfl)
set_option maxRecDepth 100000 in
theorem s_20_13 (hC : SndC g HB l MM call) : Snd g HB l call cX1_byteAt 2 yX1_byteAt.cls yX1_byteAt.name 13 (lf (q_load isR 0 14)) := lf_ok (p_aload_n (by decide +kernel : decode cX1_byteAt 13 = .ok (.aload_n 0, 1)) rfl rfl)
set_option maxRecDepth 100000 in
theorem s_20_14 (hC : SndC g HB l MM call) : Snd g HB l call cX1_byteAt 2 yX1_byteAt.cls yX1_byteAt.name 14 (s_get 2 0 17) := h_get (k := 0) (C := RX1) (T := TX1) (N := 2) (ci := 2) rfl (by decide) (tin 1 46 (by decide +kernel) rfl)  (by decide +kernel : decode cX1_byteAt 14 = .ok (.getfield 9, 3)) rfl
set_option maxRecDepth 100000 in
theorem s_20_17 (hC : SndC g HB l MM call) : Snd g HB l call cX1_byteAt 2 yX1_byteAt.cls yX1_byteAt.name 17 (s_alen 18) := h_alen (by decide +kernel : decode cX1_byteAt 17 = .ok (.arraylength, 1)) rfl
set_option maxRecDepth 100000 in
theorem s_20_18 (hC : SndC g HB l MM call) : Snd g HB l call cX1_byteAt 2 yX1_byteAt.cls yX1_byteAt.name 18 (s_br2 3 34 21) := b_ige (by decide +kernel : decode cX1_byteAt 18 = .ok (.if_icmp .ge 16, 3)) (by decide) rfl
set_option maxRecDepth 100000 in
theorem s_20_21 (hC : SndC g HB l MM call) : Snd g HB l call cX1_byteAt 2 yX1_byteAt.cls yX1_byteAt.name 21 (lf (q_load isR 0 22)) := lf_ok (p_aload_n (by decide +kernel : decode cX1_byteAt 21 = .ok (.aload_n 0, 1)) rfl rfl)
set_option maxRecDepth 100000 in
theorem s_20_22 (hC : SndC g HB l MM call) : Snd g HB l call cX1_byteAt 2 yX1_byteAt.cls yX1_byteAt.name 22 (s_get 2 0 25) := h_get (k := 0) (C := RX1) (T := TX1) (N := 2) (ci := 2) rfl (by decide) (tin 1 46 (by decide +kernel) rfl)  (by decide +kernel : decode cX1_byteAt 22 = .ok (.getfield 9, 3)) rfl
set_option maxRecDepth 100000 in
theorem s_20_25 (hC : SndC g HB l MM call) : Snd g HB l call cX1_byteAt 2 yX1_byteAt.cls yX1_byteAt.name 25 (lf (q_load isI 1 26)) := lf_ok (p_iload_n (by decide +kernel : decode cX1_byteAt 25 = .ok (.iload_n 1, 1)) rfl rfl)
set_option maxRecDepth 100000 in
theorem s_20_26 (hC : SndC g HB l MM call) : Snd g HB l call cX1_byteAt 2 yX1_byteAt.cls yX1_byteAt.name 26 (s_ald (fun t => Nat.beq t 1 || Nat.beq t 2) isI (.inl 0) 27) := h_bald (by decide +kernel : decode cX1_byteAt 26 = .ok (.baload, 1)) rfl
set_option maxRecDepth 100000 in
theorem s_20_27 (hC : SndC g HB l MM call) : Snd g HB l call cX1_byteAt 2 yX1_byteAt.cls yX1_byteAt.name 27 (lf (q_push (.inl 255) 30)) := lf_ok (p_sipush (by decide +kernel : decode cX1_byteAt 27 = .ok (.sipush 255, 3)) (by decide +kernel) rfl)
set_option maxRecDepth 100000 in
theorem s_20_30 (hC : SndC g HB l MM call) : Snd g HB l call cX1_byteAt 2 yX1_byteAt.cls yX1_byteAt.name 30 (lf (q_bin (iop2 (fun x y => x &&& y)) 31)) := lf_ok (p_iand (by decide +kernel : decode cX1_byteAt 30 = .ok (.iand, 1)) rfl)
set_option maxRecDepth 100000 in
theorem s_20_31 (hC : SndC g HB l MM call) : Snd g HB l call cX1_byteAt 2 yX1_byteAt.cls yX1_byteAt.name 31 (lf (q_goto 35)) := lf_ok (p_goto (by decide +kernel : decode cX1_byteAt 31 = .ok (.goto 4, 3)) (by decide))
set_option maxRecDepth 100000 in
theorem s_20_34 (hC : SndC g HB l MM call) : Snd g HB l call cX1_byteAt 2 yX1_byteAt.cls yX1_byteAt.name 34 (lf (q_push (.inl 4294967295) 35)) := lf_ok (p_iconst (by decide +kernel : decode cX1_byteAt 34 = .ok (.iconst (-1), 1)) (by decide +kernel) rfl)
set_option maxRecDepth 100000 in
theorem ok_20 (hex : HB.size = g.1) (hC : SndC g HB l MM call) : ∀ x ∈ P_20, Snd g HB l call cX1_byteAt 2 yX1_byteAt.cls yX1_byteAt.name x.1 x.2 := fa1 (s_20_0 hC) (fa1 (s_20_1 hC) (fa1 (s_20_4 hC) (fa1 (s_20_5 hC) (fa1 (s_20_6 hC) (fa1 (s_20_9 hC) (fa1 (s_20_12 hC) (fa1 (s_20_13 hC) (fa1 (s_20_14 hC) (fa1 (s_20_17 hC) (fa1 (s_20_18 hC) (fa1 (s_20_21 hC) (fa1 (s_20_22 hC) (fa1 (s_20_25 hC) (fa1 (s_20_26 hC) (fa1 (s_20_27 hC) (fa1 (s_20_30 hC) (fa1 (s_20_31 hC) (fa1 (s_20_34 hC) (fn1)))))))))))))))))))
set_option maxRecDepth 100000 in
theorem ms_20 (hex : HB.size = g.1) : MSnd g HB l MM D_20 := ⟨by decide +kernel, fun _ hC => ok_20 hex hC, fa1 (show endOK cX1_byteAt (some .int) 35 1 from ⟨rfl, (by decide +kernel : decode cX1_byteAt 35 = .ok (.ireturn, 1))⟩) (fn1)⟩
set_option maxRecDepth 100000 in
theorem s_21_0 (hC : SndC g HB l MM call) : Snd g HB l call cX11_add 1 yX11_add.cls yX11_add.name 0 (lf (q_load isR 0 1)) := lf_ok (p_aload_n (by decide +kernel : decode cX11_add 0 = .ok (.aload_n 0, 1)) rfl rfl)
set_option maxRecDepth 100000 in
theorem s_21_1 (hC : SndC g HB l MM call) : Snd g HB l call cX11_add 1 yX11_add.cls yX11_add.name 1 (s_get 9 6 4) := h_get (k := 6) (C := RX11) (T := TX11) (N := 17) (ci := 9) rfl (by decide) (tin 2 101 (by decide +kernel) rfl)  (by decide +kernel : decode cX11_add 1 = .ok (.getfield 40, 3)) rfl
set_option maxRecDepth 100000 in
theorem s_21_4 (hC : SndC g HB l MM call) : Snd g HB l call cX11_add 1 yX11_add.cls yX11_add.name 4 (s_cV 0 22 0 20 7) := c_V (C := RJx4a65c) (T := TJx4a65c) (N := 3) (ci := 0) rfl hC (M := MM) (id := 22) (d := D_22) rfl mok_22 rfl rfl (tin 2 233 (by decide +kernel) rfl) (tin 2 188 (by decide +kernel) rfl) (tin 2 189 (by decide +kernel) rfl) (tin 1 6 (by decide +kernel) rfl) (by decide +kernel : decode cX11_add 4 = .ok (.invokevirtual 93, 3)) rfl
set_option maxRecDepth 100000 in
theorem s_21_7 (hC : SndC g HB l MM call) : Snd g HB l call cX11_add 1 yX11_add.cls yX11_add.name 7 (lf (q_push (.inl 60) 9)) := lf_ok (p_bipush (by decide +kernel : decode cX11_add 7 = .ok (.bipush 60, 2)) (by decide +kernel) rfl)
set_option maxRecDepth 100000 in
theorem s_21_9 (hC : SndC g HB l MM call) : Snd g HB l call cX11_add 1 yX11_add.cls yX11_add.name 9 (s_br2 3 22 12) := b_ige (by decide +kernel : decode cX11_add 9 = .ok (.if_icmp .ge 13, 3)) (by decide) rfl
set_option maxRecDepth 100000 in
theorem s_21_12 (hC : SndC g HB l MM call) : Snd g HB l call cX11_add 1 yX11_add.cls yX11_add.name 12 (lf (q_load isR 0 13)) := lf_ok (p_aload_n (by decide +kernel : decode cX11_add 12 = .ok (.aload_n 0, 1)) rfl rfl)
set_option maxRecDepth 100000 in
theorem s_21_13 (hC : SndC g HB l MM call) : Snd g HB l call cX11_add 1 yX11_add.cls yX11_add.name 13 (s_get 9 15 16) := h_get (k := 15) (C := RX11) (T := TX11) (N := 17) (ci := 9) rfl (by decide) (tin 2 110 (by decide +kernel) rfl)  (by decide +kernel : decode cX11_add 13 = .ok (.getfield 94, 3)) rfl
set_option maxRecDepth 100000 in
theorem s_21_16 (hC : SndC g HB l MM call) : Snd g HB l call cX11_add 1 yX11_add.cls yX11_add.name 16 (lf (q_push (.inl 200) 19)) := lf_ok (p_sipush (by decide +kernel : decode cX11_add 16 = .ok (.sipush 200, 3)) (by decide +kernel) rfl)
set_option maxRecDepth 100000 in
theorem s_21_19 (hC : SndC g HB l MM call) : Snd g HB l call cX11_add 1 yX11_add.cls yX11_add.name 19 (s_br2 2 32 22) := b_ilt (by decide +kernel : decode cX11_add 19 = .ok (.if_icmp .lt 13, 3)) (by decide) rfl
set_option maxRecDepth 100000 in
theorem s_21_32 (hC : SndC g HB l MM call) : Snd g HB l call cX11_add 1 yX11_add.cls yX11_add.name 32 (lf (q_load isR 0 33)) := lf_ok (p_aload_n (by decide +kernel : decode cX11_add 32 = .ok (.aload_n 0, 1)) rfl rfl)
set_option maxRecDepth 100000 in
theorem s_21_33 (hC : SndC g HB l MM call) : Snd g HB l call cX11_add 1 yX11_add.cls yX11_add.name 33 (s_get 9 6 36) := h_get (k := 6) (C := RX11) (T := TX11) (N := 17) (ci := 9) rfl (by decide) (tin 2 101 (by decide +kernel) rfl)  (by decide +kernel : decode cX11_add 33 = .ok (.getfield 40, 3)) rfl
set_option maxRecDepth 100000 in
theorem s_21_36 (hC : SndC g HB l MM call) : Snd g HB l call cX11_add 1 yX11_add.cls yX11_add.name 36 (lf (q_load isR 0 37)) := lf_ok (p_aload_n (by decide +kernel : decode cX11_add 36 = .ok (.aload_n 0, 1)) rfl rfl)
set_option maxRecDepth 100000 in
theorem s_21_37 (hC : SndC g HB l MM call) : Snd g HB l call cX11_add 1 yX11_add.cls yX11_add.name 37 (s_get 9 8 40) := h_get (k := 8) (C := RX11) (T := TX11) (N := 17) (ci := 9) rfl (by decide) (tin 2 103 (by decide +kernel) rfl)  (by decide +kernel : decode cX11_add 37 = .ok (.getfield 58, 3)) rfl
set_option maxRecDepth 100000 in
theorem s_21_40 (hC : SndC g HB l MM call) : Snd g HB l call cX11_add 1 yX11_add.cls yX11_add.name 40 (lf (q_load isR 0 41)) := lf_ok (p_aload_n (by decide +kernel : decode cX11_add 40 = .ok (.aload_n 0, 1)) rfl rfl)
set_option maxRecDepth 100000 in
theorem s_21_41 (hC : SndC g HB l MM call) : Snd g HB l call cX11_add 1 yX11_add.cls yX11_add.name 41 (s_get 9 15 44) := h_get (k := 15) (C := RX11) (T := TX11) (N := 17) (ci := 9) rfl (by decide) (tin 2 110 (by decide +kernel) rfl)  (by decide +kernel : decode cX11_add 41 = .ok (.getfield 94, 3)) rfl
set_option maxRecDepth 100000 in
theorem s_21_44 (hC : SndC g HB l MM call) : Snd g HB l call cX11_add 1 yX11_add.cls yX11_add.name 44 (s_cV 6 23 1 26 47) := c_V (C := RX7) (T := TX7) (N := 15) (ci := 6) rfl hC (M := MM) (id := 23) (d := D_23) rfl mok_23 rfl rfl (tin 3 149 (by decide +kernel) rfl) (tin 3 150 (by decide +kernel) rfl) (tin 3 151 (by decide +kernel) rfl) (tin 1 8 (by decide +kernel) rfl) (by decide +kernel : decode cX11_add 44 = .ok (.invokevirtual 105, 3)) rfl
set_option maxRecDepth 100000 in
theorem s_21_47 (hC : SndC g HB l MM call) : Snd g HB l call cX11_add 1 yX11_add.cls yX11_add.name 47 (s_cV 0 66 1 21 50) := c_V (C := RJx4a65c) (T := TJx4a65c) (N := 3) (ci := 0) rfl hC (M := MM) (id := 66) (d := D_66) rfl mok_66 rfl rfl (tin 5 85 (by decide +kernel) rfl) (tin 5 86 (by decide +kernel) rfl) (tin 5 87 (by decide +kernel) rfl) (tin 1 6 (by decide +kernel) rfl) (by decide +kernel : decode cX11_add 47 = .ok (.invokevirtual 109, 3)) rfl
set_option maxRecDepth 100000 in
theorem s_21_50 (hC : SndC g HB l MM call) : Snd g HB l call cX11_add 1 yX11_add.cls yX11_add.name 50 (lf (q_pop 51)) := lf_ok (p_pop (by decide +kernel : decode cX11_add 50 = .ok (.pop, 1)) rfl)
set_option maxRecDepth 100000 in
theorem s_21_51 (hC : SndC g HB l MM call) : Snd g HB l call cX11_add 1 yX11_add.cls yX11_add.name 51 (lf (q_load isR 0 52)) := lf_ok (p_aload_n (by decide +kernel : decode cX11_add 51 = .ok (.aload_n 0, 1)) rfl rfl)
set_option maxRecDepth 100000 in
theorem s_21_52 (hC : SndC g HB l MM call) : Snd g HB l call cX11_add 1 yX11_add.cls yX11_add.name 52 (s_get 9 1 55) := h_get (k := 1) (C := RX11) (T := TX11) (N := 17) (ci := 9) rfl (by decide) (tin 2 96 (by decide +kernel) rfl)  (by decide +kernel : decode cX11_add 52 = .ok (.getfield 18, 3)) rfl
set_option maxRecDepth 100000 in
theorem s_21_55 (hC : SndC g HB l MM call) : Snd g HB l call cX11_add 1 yX11_add.cls yX11_add.name 55 (s_cV 2 12 0 20 58) := c_V (C := RX1) (T := TX1) (N := 2) (ci := 2) rfl hC (M := MM) (id := 12) (d := D_12) rfl mok_12 rfl rfl (tin 2 83 (by decide +kernel) rfl) (tin 2 84 (by decide +kernel) rfl) (tin 2 85 (by decide +kernel) rfl) (tin 1 2 (by decide +kernel) rfl) (by decide +kernel : decode cX11_add 55 = .ok (.invokevirtual 113, 3)) rfl
set_option maxRecDepth 100000 in
theorem s_21_58 (hC : SndC g HB l MM call) : Snd g HB l call cX11_add 1 yX11_add.cls yX11_add.name 58 (lf (q_load isR 0 59)) := lf_ok (p_aload_n (by decide +kernel : decode cX11_add 58 = .ok (.aload_n 0, 1)) rfl rfl)
set_option maxRecDepth 100000 in
theorem s_21_59 (hC : SndC g HB l MM call) : Snd g HB l call cX11_add 1 yX11_add.cls yX11_add.name 59 (s_get 9 7 62) := h_get (k := 7) (C := RX11) (T := TX11) (N := 17) (ci := 9) rfl (by decide) (tin 2 102 (by decide +kernel) rfl)  (by decide +kernel : decode cX11_add 59 = .ok (.getfield 49, 3)) rfl
set_option maxRecDepth 100000 in
theorem s_21_62 (hC : SndC g HB l MM call) : Snd g HB l call cX11_add 1 yX11_add.cls yX11_add.name 62 (s_cV 8 70 0 20 65) := c_V (C := RX10) (T := TX10) (N := 7) (ci := 8) rfl hC (M := MM) (id := 70) (d := D_70) rfl mok_70 rfl rfl (tin 5 140 (by decide +kernel) rfl) (tin 5 141 (by decide +kernel) rfl) (tin 5 142 (by decide +kernel) rfl) (tin 1 7 (by decide +kernel) rfl) (by decide +kernel : decode cX11_add 62 = .ok (.invokevirtual 116, 3)) rfl
set_option maxRecDepth 100000 in
theorem s_21_65 (hC : SndC g HB l MM call) : Snd g HB l call cX11_add 1 yX11_add.cls yX11_add.name 65 (lf (q_load isR 0 66)) := lf_ok (p_aload_n (by decide +kernel : decode cX11_add 65 = .ok (.aload_n 0, 1)) rfl rfl)
set_option maxRecDepth 100000 in
theorem s_21_66 (hC : SndC g HB l MM call) : Snd g HB l call cX11_add 1 yX11_add.cls yX11_add.name 66 (lf (q_dup 67)) := lf_ok (p_dup (by decide +kernel : decode cX11_add 66 = .ok (.dup, 1)) rfl)
set_option maxRecDepth 100000 in
theorem s_21_67 (hC : SndC g HB l MM call) : Snd g HB l call cX11_add 1 yX11_add.cls yX11_add.name 67 (s_get 9 15 70) := h_get (k := 15) (C := RX11) (T := TX11) (N := 17) (ci := 9) rfl (by decide) (tin 2 110 (by decide +kernel) rfl)  (by decide +kernel : decode cX11_add 67 = .ok (.getfield 94, 3)) rfl
set_option maxRecDepth 100000 in
theorem s_21_70 (hC : SndC g HB l MM call) : Snd g HB l call cX11_add 1 yX11_add.cls yX11_add.name 70 (lf (q_push (.inl 1) 71)) := lf_ok (p_iconst (by decide +kernel : decode cX11_add 70 = .ok (.iconst 1, 1)) (by decide +kernel) rfl)
set_option maxRecDepth 100000 in
theorem s_21_71 (hC : SndC g HB l MM call) : Snd g HB l call cX11_add 1 yX11_add.cls yX11_add.name 71 (lf (q_bin (iop2 (fun x y => x + y)) 72)) := lf_ok (p_iadd (by decide +kernel : decode cX11_add 71 = .ok (.iadd, 1)) rfl)
set_option maxRecDepth 100000 in
theorem s_21_72 (hC : SndC g HB l MM call) : Snd g HB l call cX11_add 1 yX11_add.cls yX11_add.name 72 (s_put 9 15 0 75) := h_put (k := 15) (C := RX11) (T := TX11) (N := 17) (ci := 9) rfl (by decide) rfl rfl (tin 2 110 (by decide +kernel) rfl)  (by decide +kernel : decode cX11_add 72 = .ok (.putfield 94, 3)) rfl
set_option maxRecDepth 100000 in
theorem s_21_75 (hC : SndC g HB l MM call) : Snd g HB l call cX11_add 1 yX11_add.cls yX11_add.name 75 (lf (q_load isR 0 76)) := lf_ok (p_aload_n (by decide +kernel : decode cX11_add 75 = .ok (.aload_n 0, 1)) rfl rfl)
set_option maxRecDepth 100000 in
theorem s_21_76 (hC : SndC g HB l MM call) : Snd g HB l call cX11_add 1 yX11_add.cls yX11_add.name 76 (s_get 9 15 79) := h_get (k := 15) (C := RX11) (T := TX11) (N := 17) (ci := 9) rfl (by decide) (tin 2 110 (by decide +kernel) rfl)  (by decide +kernel : decode cX11_add 76 = .ok (.getfield 94, 3)) rfl
set_option maxRecDepth 100000 in
theorem s_21_79 (hC : SndC g HB l MM call) : Snd g HB l call cX11_add 1 yX11_add.cls yX11_add.name 79 (lf (q_push (.inl 1) 80)) := lf_ok (p_iconst (by decide +kernel : decode cX11_add 79 = .ok (.iconst 1, 1)) (by decide +kernel) rfl)
set_option maxRecDepth 100000 in
theorem s_21_80 (hC : SndC g HB l MM call) : Snd g HB l call cX11_add 1 yX11_add.cls yX11_add.name 80 (lf (q_bin (iop2 (fun x y => x - y)) 81)) := lf_ok (p_isub (by decide +kernel : decode cX11_add 80 = .ok (.isub, 1)) rfl)
set_option maxRecDepth 100000 in
theorem ok_21 (hex : HB.size = g.1) (hC : SndC g HB l MM call) : ∀ x ∈ P_21, Snd g HB l call cX11_add 1 yX11_add.cls yX11_add.name x.1 x.2 := fa1 (s_21_0 hC) (fa1 (s_21_1 hC) (fa1 (s_21_4 hC) (fa1 (s_21_7 hC) (fa1 (s_21_9 hC) (fa1 (s_21_12 hC) (fa1 (s_21_13 hC) (fa1 (s_21_16 hC) (fa1 (s_21_19 hC) (fa1 (s_21_32 hC) (fa1 (s_21_33 hC) (fa1 (s_21_36 hC) (fa1 (s_21_37 hC) (fa1 (s_21_40 hC) (fa1 (s_21_41 hC) (fa1 (s_21_44 hC) (fa1 (s_21_47 hC) (fa1 (s_21_50 hC) (fa1 (s_21_51 hC) (fa1 (s_21_52 hC) (fa1 (s_21_55 hC) (fa1 (s_21_58 hC) (fa1 (s_21_59 hC) (fa1 (s_21_62 hC) (fa1 (s_21_65 hC) (fa1 (s_21_66 hC) (fa1 (s_21_67 hC) (fa1 (s_21_70 hC) (fa1 (s_21_71 hC) (fa1 (s_21_72 hC) (fa1 (s_21_75 hC) (fa1 (s_21_76 hC) (fa1 (s_21_79 hC) (fa1 (s_21_80 hC) (fn1))))))))))))))))))))))))))))))))))
set_option maxRecDepth 100000 in
theorem ms_21 (hex : HB.size = g.1) : MSnd g HB l MM D_21 := ⟨by decide +kernel, fun _ hC => ok_21 hex hC, fa1 (show endOK cX11_add (some .int) 81 1 from ⟨rfl, (by decide +kernel : decode cX11_add 81 = .ok (.ireturn, 1))⟩) (fn1)⟩
set_option maxRecDepth 100000 in
theorem s_22_0 (hC : SndC g HB l MM call) : Snd g HB l call cJx4a65c_size_8abf5 1 yJx4a65c_size_8abf5.cls yJx4a65c_size_8abf5.name 0 (lf (q_load isR 0 1)) := lf_ok (p_aload_n (by decide +kernel : decode cJx4a65c_size_8abf5 0 = .ok (.aload_n 0, 1)) rfl rfl)
set_option maxRecDepth 100000 in
theorem s_22_1 (hC : SndC g HB l MM call) : Snd g HB l call cJx4a65c_size_8abf5 1 yJx4a65c_size_8abf5.cls yJx4a65c_size_8abf5.name 1 (s_get 0 2 4) := h_get (k := 2) (C := RJx4a65c) (T := TJx4a65c) (N := 3) (ci := 0) rfl (by decide) (tin 1 98 (by decide +kernel) rfl)  (by decide +kernel : decode cJx4a65c_size_8abf5 1 = .ok (.getfield 48, 3)) rfl
set_option maxRecDepth 100000 in
theorem ok_22 (hex : HB.size = g.1) (hC : SndC g HB l MM call) : ∀ x ∈ P_22, Snd g HB l call cJx4a65c_size_8abf5 1 yJx4a65c_size_8abf5.cls yJx4a65c_size_8abf5.name x.1 x.2 := fa1 (s_22_0 hC) (fa1 (s_22_1 hC) (fn1))
set_option maxRecDepth 100000 in
theorem ms_22 (hex : HB.size = g.1) : MSnd g HB l MM D_22 := ⟨by decide +kernel, fun _ hC => ok_22 hex hC, fa1 (show endOK cJx4a65c_size_8abf5 (some .int) 4 1 from ⟨rfl, (by decide +kernel : decode cJx4a65c_size_8abf5 4 = .ok (.ireturn, 1))⟩) (fn1)⟩
set_option maxRecDepth 100000 in
theorem s_23_0 (hC : SndC g HB l MM call) : Snd g HB l call cX7_read 7 yX7_read.cls yX7_read.name 0 (lf (q_load isR 0 1)) := lf_ok (p_aload_n (by decide +kernel : decode cX7_read 0 = .ok (.aload_n 0, 1)) rfl rfl)
set_option maxRecDepth 100000 in
theorem s_23_1 (hC : SndC g HB l MM call) : Snd g HB l call cX7_read 7 yX7_read.cls yX7_read.name 1 (s_get 6 3 4) := h_get (k := 3) (C := RX7) (T := TX7) (N := 15) (ci := 6) rfl (by decide) (tin 1 172 (by decide +kernel) rfl)  (by decide +kernel : decode cX7_read 1 = .ok (.getfield 60, 3)) rfl
set_option maxRecDepth 100000 in
theorem s_23_4 (hC : SndC g HB l MM call) : Snd g HB l call cX7_read 7 yX7_read.cls yX7_read.name 4 (lf (q_push (.inl 0) 5)) := lf_ok (p_iconst (by decide +kernel : decode cX7_read 4 = .ok (.iconst 0, 1)) (by decide +kernel) rfl)
set_option maxRecDepth 100000 in
theorem s_23_5 (hC : SndC g HB l MM call) : Snd g HB l call cX7_read 7 yX7_read.cls yX7_read.name 5 (lf (q_load isR 0 6)) := lf_ok (p_aload_n (by decide +kernel : decode cX7_read 5 = .ok (.aload_n 0, 1)) rfl rfl)
set_option maxRecDepth 100000 in
theorem s_23_6 (hC : SndC g HB l MM call) : Snd g HB l call cX7_read 7 yX7_read.cls yX7_read.name 6 (s_get 6 0 9) := h_get (k := 0) (C := RX7) (T := TX7) (N := 15) (ci := 6) rfl (by decide) (tin 1 169 (by decide +kernel) rfl)  (by decide +kernel : decode cX7_read 6 = .ok (.getfield 45, 3)) rfl
set_option maxRecDepth 100000 in
theorem s_23_9 (hC : SndC g HB l MM call) : Snd g HB l call cX7_read 7 yX7_read.cls yX7_read.name 9 (s_cV 2 18 0 20 12) := c_V (C := RX1) (T := TX1) (N := 2) (ci := 2) rfl hC (M := MM) (id := 18) (d := D_18) rfl mok_18 rfl rfl (tin 3 153 (by decide +kernel) rfl) (tin 2 156 (by decide +kernel) rfl) (tin 2 157 (by decide +kernel) rfl) (tin 1 2 (by decide +kernel) rfl) (by decide +kernel : decode cX7_read 9 = .ok (.invokevirtual 64, 3)) rfl
set_option maxRecDepth 100000 in
theorem s_23_12 (hC : SndC g HB l MM call) : Snd g HB l call cX7_read 7 yX7_read.cls yX7_read.name 12 (s_cV 3 24 2 29 15) := c_V (C := RX4) (T := TX4) (N := 5) (ci := 3) rfl hC (M := MM) (id := 24) (d := D_24) rfl mok_24 rfl rfl (tin 3 154 (by decide +kernel) rfl) (tin 3 155 (by decide +kernel) rfl) (tin 3 156 (by decide +kernel) rfl) (tin 1 9 (by decide +kernel) rfl) (by decide +kernel : decode cX7_read 12 = .ok (.invokevirtual 68, 3)) rfl
set_option maxRecDepth 100000 in
theorem s_23_15 (hC : SndC g HB l MM call) : Snd g HB l call cX7_read 7 yX7_read.cls yX7_read.name 15 (lf (q_load isR 0 16)) := lf_ok (p_aload_n (by decide +kernel : decode cX7_read 15 = .ok (.aload_n 0, 1)) rfl rfl)
set_option maxRecDepth 100000 in
theorem s_23_16 (hC : SndC g HB l MM call) : Snd g HB l call cX7_read 7 yX7_read.cls yX7_read.name 16 (s_cV 6 26 0 20 19) := c_V (C := RX7) (T := TX7) (N := 15) (ci := 6) rfl hC (M := MM) (id := 26) (d := D_26) rfl mok_26 rfl rfl (tin 4 27 (by decide +kernel) rfl) (tin 4 29 (by decide +kernel) rfl) (tinP (y := mdY D_26) (n := 15) 16 (by decide +kernel)) (tin 1 8 (by decide +kernel) rfl) (by decide +kernel : decode cX7_read 16 = .ok (.invokevirtual 72, 3)) rfl
set_option maxRecDepth 100000 in
theorem s_23_19 (hC : SndC g HB l MM call) : Snd g HB l call cX7_read 7 yX7_read.cls yX7_read.name 19 (lf (q_store isI up1 0 2 7 20)) := lf_ok (p_istore_n (by decide +kernel : decode cX7_read 19 = .ok (.istore_n 2, 1)) rfl rfl)
set_option maxRecDepth 100000 in
theorem s_23_20 (hC : SndC g HB l MM call) : Snd g HB l call cX7_read 7 yX7_read.cls yX7_read.name 20 (lf (q_load isR 0 21)) := lf_ok (p_aload_n (by decide +kernel : decode cX7_read 20 = .ok (.aload_n 0, 1)) rfl rfl)
set_option maxRecDepth 100000 in
theorem s_23_21 (hC : SndC g HB l MM call) : Snd g HB l call cX7_read 7 yX7_read.cls yX7_read.name 21 (s_cV 6 47 0 22 24) := c_V (C := RX7) (T := TX7) (N := 15) (ci := 6) rfl hC (M := MM) (id := 47) (d := D_47) rfl mok_47 rfl rfl (tin 4 102 (by decide +kernel) rfl) (tin 4 104 (by decide +kernel) rfl) (tinP (y := mdY D_47) (n := 15) 17 (by decide +kernel)) (tin 1 8 (by decide +kernel) rfl) (by decide +kernel : decode cX7_read 21 = .ok (.invokevirtual 75, 3)) rfl
set_option maxRecDepth 100000 in
theorem s_23_24 (hC : SndC g HB l MM call) : Snd g HB l call cX7_read 7 yX7_read.cls yX7_read.name 24 (lf (q_store isI up1 0 3 7 25)) := lf_ok (p_istore_n (by decide +kernel : decode cX7_read 24 = .ok (.istore_n 3, 1)) rfl rfl)
set_option maxRecDepth 100000 in
theorem s_23_25 (hC : SndC g HB l MM call) : Snd g HB l call cX7_read 7 yX7_read.cls yX7_read.name 25 (lf (q_load isR 0 26)) := lf_ok (p_aload_n (by decide +kernel : decode cX7_read 25 = .ok (.aload_n 0, 1)) rfl rfl)
set_option maxRecDepth 100000 in
theorem s_23_26 (hC : SndC g HB l MM call) : Snd g HB l call cX7_read 7 yX7_read.cls yX7_read.name 26 (s_cV 6 50 0 21 29) := c_V (C := RX7) (T := TX7) (N := 15) (ci := 6) rfl hC (M := MM) (id := 50) (d := D_50) rfl mok_50 rfl rfl (tin 4 158 (by decide +kernel) rfl) (tin 4 160 (by decide +kernel) rfl) (tinP (y := mdY D_50) (n := 15) 20 (by decide +kernel)) (tin 1 8 (by decide +kernel) rfl) (by decide +kernel : decode cX7_read 26 = .ok (.invokevirtual 78, 3)) rfl
set_option maxRecDepth 100000 in
theorem s_23_29 (hC : SndC g HB l MM call) : Snd g HB l call cX7_read 7 yX7_read.cls yX7_read.name 29 (lf (q_store isR up1 0 4 7 31)) := lf_ok (p_astore (by decide +kernel : decode cX7_read 29 = .ok (.astore 4, 2)) rfl)
set_option maxRecDepth 100000 in
theorem s_23_31 (hC : SndC g HB l MM call) : Snd g HB l call cX7_read 7 yX7_read.cls yX7_read.name 31 (lf (q_push (.inl 5) 32)) := lf_ok (p_iconst (by decide +kernel : decode cX7_read 31 = .ok (.iconst 5, 1)) (by decide +kernel) rfl)
set_option maxRecDepth 100000 in
theorem s_23_32 (hC : SndC g HB l MM call) (hex : HB.size = g.1) : Snd g HB l call cX7_read 7 yX7_read.cls yX7_read.name 32 (s_newa 0 34) := h_newa hex (t := 0) (by decide) rfl (tin 1 82 (by decide +kernel) rfl) (by decide +kernel : decode cX7_read 32 = .ok (.newarray .int, 2)) rfl
set_option maxRecDepth 100000 in
theorem s_23_34 (hC : SndC g HB l MM call) : Snd g HB l call cX7_read 7 yX7_read.cls yX7_read.name 34 (lf (q_store isR up1 0 5 7 36)) := lf_ok (p_astore (by decide +kernel : decode cX7_read 34 = .ok (.astore 5, 2)) rfl)
set_option maxRecDepth 100000 in
theorem s_23_36 (hC : SndC g HB l MM call) : Snd g HB l call cX7_read 7 yX7_read.cls yX7_read.name 36 (lf (q_load isR 0 37)) := lf_ok (p_aload_n (by decide +kernel : decode cX7_read 36 = .ok (.aload_n 0, 1)) rfl rfl)
set_option maxRecDepth 100000 in
theorem s_23_37 (hC : SndC g HB l MM call) : Snd g HB l call cX7_read 7 yX7_read.cls yX7_read.name 37 (lf (q_push (.inl 0) 38)) := lf_ok (p_iconst (by decide +kernel : decode cX7_read 37 = .ok (.iconst 0, 1)) (by decide +kernel) rfl)
set_option maxRecDepth 100000 in
theorem s_23_38 (hC : SndC g HB l MM call) : Snd g HB l call cX7_read 7 yX7_read.cls yX7_read.name 38 (s_put 6 13 0 41) := h_put (k := 13) (C := RX7) (T := TX7) (N := 15) (ci := 6) rfl (by decide) rfl rfl (tin 1 182 (by decide +kernel) rfl)  (by decide +kernel : decode cX7_read 38 = .ok (.putfield 82, 3)) rfl
set_option maxRecDepth 100000 in
theorem s_23_41 (hC : SndC g HB l MM call) : Snd g HB l call cX7_read 7 yX7_read.cls yX7_read.name 41 (lf (q_push (.inl 0) 42)) := lf_ok (p_iconst (by decide +kernel : decode cX7_read 41 = .ok (.iconst 0, 1)) (by decide +kernel) rfl)
set_option maxRecDepth 100000 in
theorem s_23_42 (hC : SndC g HB l MM call) : Snd g HB l call cX7_read 7 yX7_read.cls yX7_read.name 42 (lf (q_store isI up1 0 6 7 44)) := lf_ok (p_istore (by decide +kernel : decode cX7_read 42 = .ok (.istore 6, 2)) rfl)
set_option maxRecDepth 100000 in
theorem s_23_44 (hC : SndC g HB l MM call) : Snd g HB l call cX7_read 7 yX7_read.cls yX7_read.name 44 (lf (q_load isI 6 46)) := lf_ok (p_iload (by decide +kernel : decode cX7_read 44 = .ok (.iload 6, 2)) rfl)
set_option maxRecDepth 100000 in
theorem s_23_46 (hC : SndC g HB l MM call) : Snd g HB l call cX7_read 7 yX7_read.cls yX7_read.name 46 (lf (q_push (.inl 2) 47)) := lf_ok (p_iconst (by decide +kernel : decode cX7_read 46 = .ok (.iconst 2, 1)) (by decide +kernel) rfl)
set_option maxRecDepth 100000 in
theorem s_23_47 (hC : SndC g HB l MM call) : Snd g HB l call cX7_read 7 yX7_read.cls yX7_read.name 47 (s_br2 4 105 50) := b_igt (by decide +kernel : decode cX7_read 47 = .ok (.if_icmp .gt 58, 3)) (by decide) rfl
set_option maxRecDepth 100000 in
theorem s_23_50 (hC : SndC g HB l MM call) : Snd g HB l call cX7_read 7 yX7_read.cls yX7_read.name 50 (lf (q_load isR 0 51)) := lf_ok (p_aload_n (by decide +kernel : decode cX7_read 50 = .ok (.aload_n 0, 1)) rfl rfl)
set_option maxRecDepth 100000 in
theorem s_23_51 (hC : SndC g HB l MM call) : Snd g HB l call cX7_read 7 yX7_read.cls yX7_read.name 51 (s_get 6 3 54) := h_get (k := 3) (C := RX7) (T := TX7) (N := 15) (ci := 6) rfl (by decide) (tin 1 172 (by decide +kernel) rfl)  (by decide +kernel : decode cX7_read 51 = .ok (.getfield 60, 3)) rfl
set_option maxRecDepth 100000 in
theorem s_23_54 (hC : SndC g HB l MM call) : Snd g HB l call cX7_read 7 yX7_read.cls yX7_read.name 54 (lf (q_load isI 6 56)) := lf_ok (p_iload (by decide +kernel : decode cX7_read 54 = .ok (.iload 6, 2)) rfl)
set_option maxRecDepth 100000 in
theorem s_23_56 (hC : SndC g HB l MM call) : Snd g HB l call cX7_read 7 yX7_read.cls yX7_read.name 56 (lf (q_load isR 0 57)) := lf_ok (p_aload_n (by decide +kernel : decode cX7_read 56 = .ok (.aload_n 0, 1)) rfl rfl)
set_option maxRecDepth 100000 in
theorem s_23_57 (hC : SndC g HB l MM call) : Snd g HB l call cX7_read 7 yX7_read.cls yX7_read.name 57 (s_get 6 4 60) := h_get (k := 4) (C := RX7) (T := TX7) (N := 15) (ci := 6) rfl (by decide) (tin 1 173 (by decide +kernel) rfl)  (by decide +kernel : decode cX7_read 57 = .ok (.getfield 14, 3)) rfl
set_option maxRecDepth 100000 in
theorem s_23_60 (hC : SndC g HB l MM call) : Snd g HB l call cX7_read 7 yX7_read.cls yX7_read.name 60 (s_cV 3 27 2 25 63) := c_V (C := RX4) (T := TX4) (N := 5) (ci := 3) rfl hC (M := MM) (id := 27) (d := D_27) rfl mok_27 rfl rfl (tin 4 31 (by decide +kernel) rfl) (tin 4 32 (by decide +kernel) rfl) (tin 4 33 (by decide +kernel) rfl) (tin 1 9 (by decide +kernel) rfl) (by decide +kernel : decode cX7_read 60 = .ok (.invokevirtual 86, 3)) rfl
set_option maxRecDepth 100000 in
theorem s_23_63 (hC : SndC g HB l MM call) : Snd g HB l call cX7_read 7 yX7_read.cls yX7_read.name 63 (lf (q_load isR 0 64)) := lf_ok (p_aload_n (by decide +kernel : decode cX7_read 63 = .ok (.aload_n 0, 1)) rfl rfl)
set_option maxRecDepth 100000 in
theorem s_23_64 (hC : SndC g HB l MM call) : Snd g HB l call cX7_read 7 yX7_read.cls yX7_read.name 64 (s_get 6 5 67) := h_get (k := 5) (C := RX7) (T := TX7) (N := 15) (ci := 6) rfl (by decide) (tin 1 174 (by decide +kernel) rfl)  (by decide +kernel : decode cX7_read 64 = .ok (.getfield 20, 3)) rfl
set_option maxRecDepth 100000 in
theorem s_23_67 (hC : SndC g HB l MM call) : Snd g HB l call cX7_read 7 yX7_read.cls yX7_read.name 67 (s_cV 2 12 0 20 70) := c_V (C := RX1) (T := TX1) (N := 2) (ci := 2) rfl hC (M := MM) (id := 12) (d := D_12) rfl mok_12 rfl rfl (tin 4 170 (by decide +kernel) rfl) (tin 2 84 (by decide +kernel) rfl) (tin 2 85 (by decide +kernel) rfl) (tin 1 2 (by decide +kernel) rfl) (by decide +kernel : decode cX7_read 67 = .ok (.invokevirtual 90, 3)) rfl
set_option maxRecDepth 100000 in
theorem s_23_70 (hC : SndC g HB l MM call) : Snd g HB l call cX7_read 7 yX7_read.cls yX7_read.name 70 (lf (q_load isR 0 71)) := lf_ok (p_aload_n (by decide +kernel : decode cX7_read 70 = .ok (.aload_n 0, 1)) rfl rfl)
set_option maxRecDepth 100000 in
theorem s_23_71 (hC : SndC g HB l MM call) : Snd g HB l call cX7_read 7 yX7_read.cls yX7_read.name 71 (s_get 6 4 74) := h_get (k := 4) (C := RX7) (T := TX7) (N := 15) (ci := 6) rfl (by decide) (tin 1 173 (by decide +kernel) rfl)  (by decide +kernel : decode cX7_read 71 = .ok (.getfield 14, 3)) rfl
set_option maxRecDepth 100000 in
theorem s_23_74 (hC : SndC g HB l MM call) : Snd g HB l call cX7_read 7 yX7_read.cls yX7_read.name 74 (lf (q_load isR 0 75)) := lf_ok (p_aload_n (by decide +kernel : decode cX7_read 74 = .ok (.aload_n 0, 1)) rfl rfl)
set_option maxRecDepth 100000 in
theorem s_23_75 (hC : SndC g HB l MM call) : Snd g HB l call cX7_read 7 yX7_read.cls yX7_read.name 75 (s_get 6 5 78) := h_get (k := 5) (C := RX7) (T := TX7) (N := 15) (ci := 6) rfl (by decide) (tin 1 174 (by decide +kernel) rfl)  (by decide +kernel : decode cX7_read 75 = .ok (.getfield 20, 3)) rfl
set_option maxRecDepth 100000 in
theorem s_23_78 (hC : SndC g HB l MM call) : Snd g HB l call cX7_read 7 yX7_read.cls yX7_read.name 78 (s_cS 54 2 25 81) := c_S hC (M := MM) (id := 54) (d := D_54) rfl mok_54 rfl (tin 4 171 (by decide +kernel) rfl) (tin 4 172 (by decide +kernel) rfl) (tin 1 26 (by decide +kernel) rfl) (by decide +kernel : decode cX7_read 78 = .ok (.invokestatic 93, 3)) rfl
set_option maxRecDepth 100000 in
theorem s_23_81 (hC : SndC g HB l MM call) : Snd g HB l call cX7_read 7 yX7_read.cls yX7_read.name 81 (lf (q_load isR 0 82)) := lf_ok (p_aload_n (by decide +kernel : decode cX7_read 81 = .ok (.aload_n 0, 1)) rfl rfl)
set_option maxRecDepth 100000 in
theorem s_23_82 (hC : SndC g HB l MM call) : Snd g HB l call cX7_read 7 yX7_read.cls yX7_read.name 82 (lf (q_push (.inl 1200) 85)) := lf_ok (p_sipush (by decide +kernel : decode cX7_read 82 = .ok (.sipush 1200, 3)) (by decide +kernel) rfl)
set_option maxRecDepth 100000 in
theorem s_23_85 (hC : SndC g HB l MM call) : Snd g HB l call cX7_read 7 yX7_read.cls yX7_read.name 85 (s_cV 6 55 1 23 88) := c_V (C := RX7) (T := TX7) (N := 15) (ci := 6) rfl hC (M := MM) (id := 55) (d := D_55) rfl mok_55 rfl rfl (tin 4 206 (by decide +kernel) rfl) (tin 4 208 (by decide +kernel) rfl) (tinP (y := mdY D_55) (n := 15) 22 (by decide +kernel)) (tin 1 8 (by decide +kernel) rfl) (by decide +kernel : decode cX7_read 85 = .ok (.invokevirtual 99, 3)) rfl
set_option maxRecDepth 100000 in
theorem s_23_88 (hC : SndC g HB l MM call) : Snd g HB l call cX7_read 7 yX7_read.cls yX7_read.name 88 (lf (q_load isR 5 90)) := lf_ok (p_aload (by decide +kernel : decode cX7_read 88 = .ok (.aload 5, 2)) rfl)
set_option maxRecDepth 100000 in
theorem s_23_90 (hC : SndC g HB l MM call) : Snd g HB l call cX7_read 7 yX7_read.cls yX7_read.name 90 (lf (q_load isI 6 92)) := lf_ok (p_iload (by decide +kernel : decode cX7_read 90 = .ok (.iload 6, 2)) rfl)
set_option maxRecDepth 100000 in
theorem s_23_92 (hC : SndC g HB l MM call) : Snd g HB l call cX7_read 7 yX7_read.cls yX7_read.name 92 (lf (q_push (.inl 1) 93)) := lf_ok (p_iconst (by decide +kernel : decode cX7_read 92 = .ok (.iconst 1, 1)) (by decide +kernel) rfl)
set_option maxRecDepth 100000 in
theorem s_23_93 (hC : SndC g HB l MM call) : Snd g HB l call cX7_read 7 yX7_read.cls yX7_read.name 93 (lf (q_bin (iop2 (fun x y => x + y)) 94)) := lf_ok (p_iadd (by decide +kernel : decode cX7_read 93 = .ok (.iadd, 1)) rfl)
set_option maxRecDepth 100000 in
theorem s_23_94 (hC : SndC g HB l MM call) : Snd g HB l call cX7_read 7 yX7_read.cls yX7_read.name 94 (lf (q_load isR 0 95)) := lf_ok (p_aload_n (by decide +kernel : decode cX7_read 94 = .ok (.aload_n 0, 1)) rfl rfl)
set_option maxRecDepth 100000 in
theorem s_23_95 (hC : SndC g HB l MM call) : Snd g HB l call cX7_read 7 yX7_read.cls yX7_read.name 95 (s_get 6 13 98) := h_get (k := 13) (C := RX7) (T := TX7) (N := 15) (ci := 6) rfl (by decide) (tin 1 182 (by decide +kernel) rfl)  (by decide +kernel : decode cX7_read 95 = .ok (.getfield 82, 3)) rfl
set_option maxRecDepth 100000 in
theorem s_23_98 (hC : SndC g HB l MM call) : Snd g HB l call cX7_read 7 yX7_read.cls yX7_read.name 98 (s_ast (fun t => Nat.beq t 0) cvI 99) := h_iast (by decide +kernel : decode cX7_read 98 = .ok (.iastore, 1)) rfl
set_option maxRecDepth 100000 in
theorem s_23_99 (hC : SndC g HB l MM call) : Snd g HB l call cX7_read 7 yX7_read.cls yX7_read.name 99 (lf (q_iinc 6 1 7 102)) := lf_ok (p_iinc (by decide +kernel : decode cX7_read 99 = .ok (.iinc 6 1, 3)) rfl)
set_option maxRecDepth 100000 in
theorem s_23_102 (hC : SndC g HB l MM call) : Snd g HB l call cX7_read 7 yX7_read.cls yX7_read.name 102 (lf (q_goto 44)) := lf_ok (p_goto (by decide +kernel : decode cX7_read 102 = .ok (.goto (-58), 3)) (by decide))
set_option maxRecDepth 100000 in
theorem s_23_105 (hC : SndC g HB l MM call) : Snd g HB l call cX7_read 7 yX7_read.cls yX7_read.name 105 (lf (q_load isR 0 106)) := lf_ok (p_aload_n (by decide +kernel : decode cX7_read 105 = .ok (.aload_n 0, 1)) rfl rfl)
set_option maxRecDepth 100000 in
theorem s_23_106 (hC : SndC g HB l MM call) : Snd g HB l call cX7_read 7 yX7_read.cls yX7_read.name 106 (s_cV 6 57 0 21 109) := c_V (C := RX7) (T := TX7) (N := 15) (ci := 6) rfl hC (M := MM) (id := 57) (d := D_57) rfl mok_57 rfl rfl (tin 4 218 (by decide +kernel) rfl) (tin 4 220 (by decide +kernel) rfl) (tinP (y := mdY D_57) (n := 15) 23 (by decide +kernel)) (tin 1 8 (by decide +kernel) rfl) (by decide +kernel : decode cX7_read 106 = .ok (.invokevirtual 102, 3)) rfl
set_option maxRecDepth 100000 in
theorem s_23_109 (hC : SndC g HB l MM call) : Snd g HB l call cX7_read 7 yX7_read.cls yX7_read.name 109 (lf (q_load isR 0 110)) := lf_ok (p_aload_n (by decide +kernel : decode cX7_read 109 = .ok (.aload_n 0, 1)) rfl rfl)
set_option maxRecDepth 100000 in
theorem s_23_110 (hC : SndC g HB l MM call) : Snd g HB l call cX7_read 7 yX7_read.cls yX7_read.name 110 (lf (q_push (.inl 200) 113)) := lf_ok (p_sipush (by decide +kernel : decode cX7_read 110 = .ok (.sipush 200, 3)) (by decide +kernel) rfl)
set_option maxRecDepth 100000 in
theorem s_23_113 (hC : SndC g HB l MM call) : Snd g HB l call cX7_read 7 yX7_read.cls yX7_read.name 113 (s_cV 6 55 1 23 116) := c_V (C := RX7) (T := TX7) (N := 15) (ci := 6) rfl hC (M := MM) (id := 55) (d := D_55) rfl mok_55 rfl rfl (tin 4 206 (by decide +kernel) rfl) (tin 4 208 (by decide +kernel) rfl) (tinP (y := mdY D_55) (n := 15) 22 (by decide +kernel)) (tin 1 8 (by decide +kernel) rfl) (by decide +kernel : decode cX7_read 113 = .ok (.invokevirtual 99, 3)) rfl
set_option maxRecDepth 100000 in
theorem s_23_116 (hC : SndC g HB l MM call) : Snd g HB l call cX7_read 7 yX7_read.cls yX7_read.name 116 (lf (q_load isR 5 118)) := lf_ok (p_aload (by decide +kernel : decode cX7_read 116 = .ok (.aload 5, 2)) rfl)
set_option maxRecDepth 100000 in
theorem s_23_118 (hC : SndC g HB l MM call) : Snd g HB l call cX7_read 7 yX7_read.cls yX7_read.name 118 (lf (q_push (.inl 4) 119)) := lf_ok (p_iconst (by decide +kernel : decode cX7_read 118 = .ok (.iconst 4, 1)) (by decide +kernel) rfl)
set_option maxRecDepth 100000 in
theorem s_23_119 (hC : SndC g HB l MM call) : Snd g HB l call cX7_read 7 yX7_read.cls yX7_read.name 119 (lf (q_load isR 0 120)) := lf_ok (p_aload_n (by decide +kernel : decode cX7_read 119 = .ok (.aload_n 0, 1)) rfl rfl)
set_option maxRecDepth 100000 in
theorem s_23_120 (hC : SndC g HB l MM call) : Snd g HB l call cX7_read 7 yX7_read.cls yX7_read.name 120 (s_get 6 13 123) := h_get (k := 13) (C := RX7) (T := TX7) (N := 15) (ci := 6) rfl (by decide) (tin 1 182 (by decide +kernel) rfl)  (by decide +kernel : decode cX7_read 120 = .ok (.getfield 82, 3)) rfl
set_option maxRecDepth 100000 in
theorem s_23_123 (hC : SndC g HB l MM call) : Snd g HB l call cX7_read 7 yX7_read.cls yX7_read.name 123 (s_ast (fun t => Nat.beq t 0) cvI 124) := h_iast (by decide +kernel : decode cX7_read 123 = .ok (.iastore, 1)) rfl
set_option maxRecDepth 100000 in
theorem s_23_124 (hC : SndC g HB l MM call) (hex : HB.size = g.1) : Snd g HB l call cX7_read 7 yX7_read.cls yX7_read.name 124 (s_new 5 8 [.inl 0, .inr (.inr .null), .inr (.inr .null), .inl 0, .inl 0, .inr (.inr .null), .inr (.inr .null), .inl 0] 127) := h_new hex (C := RX6) (T := TX6) (N := 8) (ci := 5) rfl (by decide +kernel) (by decide +kernel) (tin 5 43 (by decide +kernel) rfl) (tin 5 44 (by decide +kernel) rfl) (tin 1 27 (by decide +kernel) rfl) (by decide +kernel : decode cX7_read 124 = .ok (.new 105, 3)) rfl
set_option maxRecDepth 100000 in
theorem s_23_127 (hC : SndC g HB l MM call) : Snd g HB l call cX7_read 7 yX7_read.cls yX7_read.name 127 (lf (q_dup 128)) := lf_ok (p_dup (by decide +kernel : decode cX7_read 127 = .ok (.dup, 1)) rfl)
set_option maxRecDepth 100000 in
theorem s_23_128 (hC : SndC g HB l MM call) : Snd g HB l call cX7_read 7 yX7_read.cls yX7_read.name 128 (lf (q_load isI 1 129)) := lf_ok (p_iload_n (by decide +kernel : decode cX7_read 128 = .ok (.iload_n 1, 1)) rfl rfl)
set_option maxRecDepth 100000 in
theorem s_23_129 (hC : SndC g HB l MM call) : Snd g HB l call cX7_read 7 yX7_read.cls yX7_read.name 129 (lf (q_load isR 0 130)) := lf_ok (p_aload_n (by decide +kernel : decode cX7_read 129 = .ok (.aload_n 0, 1)) rfl rfl)
set_option maxRecDepth 100000 in
theorem s_23_130 (hC : SndC g HB l MM call) : Snd g HB l call cX7_read 7 yX7_read.cls yX7_read.name 130 (s_get 6 8 133) := h_get (k := 8) (C := RX7) (T := TX7) (N := 15) (ci := 6) rfl (by decide) (tin 1 177 (by decide +kernel) rfl)  (by decide +kernel : decode cX7_read 130 = .ok (.getfield 29, 3)) rfl
set_option maxRecDepth 100000 in
theorem s_23_133 (hC : SndC g HB l MM call) : Snd g HB l call cX7_read 7 yX7_read.cls yX7_read.name 133 (lf (q_load isR 0 134)) := lf_ok (p_aload_n (by decide +kernel : decode cX7_read 133 = .ok (.aload_n 0, 1)) rfl rfl)
set_option maxRecDepth 100000 in
theorem s_23_134 (hC : SndC g HB l MM call) : Snd g HB l call cX7_read 7 yX7_read.cls yX7_read.name 134 (s_get 6 13 137) := h_get (k := 13) (C := RX7) (T := TX7) (N := 15) (ci := 6) rfl (by decide) (tin 1 182 (by decide +kernel) rfl)  (by decide +kernel : decode cX7_read 134 = .ok (.getfield 82, 3)) rfl
set_option maxRecDepth 100000 in
theorem s_23_137 (hC : SndC g HB l MM call) : Snd g HB l call cX7_read 7 yX7_read.cls yX7_read.name 137 (s_cS 52 2 21 140) := c_S hC (M := MM) (id := 52) (d := D_52) rfl mok_52 rfl (tin 4 166 (by decide +kernel) rfl) (tin 4 167 (by decide +kernel) rfl) (tin 1 8 (by decide +kernel) rfl) (by decide +kernel : decode cX7_read 137 = .ok (.invokestatic 107, 3)) rfl
set_option maxRecDepth 100000 in
theorem s_23_140 (hC : SndC g HB l MM call) : Snd g HB l call cX7_read 7 yX7_read.cls yX7_read.name 140 (lf (q_load isR 5 142)) := lf_ok (p_aload (by decide +kernel : decode cX7_read 140 = .ok (.aload 5, 2)) rfl)
set_option maxRecDepth 100000 in
theorem s_23_142 (hC : SndC g HB l MM call) : Snd g HB l call cX7_read 7 yX7_read.cls yX7_read.name 142 (lf (q_load isI 2 143)) := lf_ok (p_iload_n (by decide +kernel : decode cX7_read 142 = .ok (.iload_n 2, 1)) rfl rfl)
set_option maxRecDepth 100000 in
theorem s_23_143 (hC : SndC g HB l MM call) : Snd g HB l call cX7_read 7 yX7_read.cls yX7_read.name 143 (lf (q_load isI 3 144)) := lf_ok (p_iload_n (by decide +kernel : decode cX7_read 143 = .ok (.iload_n 3, 1)) rfl rfl)
set_option maxRecDepth 100000 in
theorem s_23_144 (hC : SndC g HB l MM call) : Snd g HB l call cX7_read 7 yX7_read.cls yX7_read.name 144 (lf (q_load isR 4 146)) := lf_ok (p_aload (by decide +kernel : decode cX7_read 144 = .ok (.aload 4, 2)) rfl)
set_option maxRecDepth 100000 in
theorem s_23_146 (hC : SndC g HB l MM call) : Snd g HB l call cX7_read 7 yX7_read.cls yX7_read.name 146 (s_cI 65 6 26 149) := c_I hC (M := MM) (id := 65) (d := D_65) rfl mok_65 rfl rfl rfl (tin 5 45 (by decide +kernel) rfl) (tin 5 46 (by decide +kernel) rfl) (tin 1 27 (by decide +kernel) rfl) (by decide +kernel : decode cX7_read 146 = .ok (.invokespecial 111, 3)) rfl
set_option maxRecDepth 100000 in
theorem ok_23 (hex : HB.size = g.1) (hC : SndC g HB l MM call) : ∀ x ∈ P_23, Snd g HB l call cX7_read 7 yX7_read.cls yX7_read.name x.1 x.2 := fa1 (s_23_0 hC) (fa1 (s_23_1 hC) (fa1 (s_23_4 hC) (fa1 (s_23_5 hC) (fa1 (s_23_6 hC) (fa1 (s_23_9 hC) (fa1 (s_23_12 hC) (fa1 (s_23_15 hC) (fa1 (s_23_16 hC) (fa1 (s_23_19 hC) (fa1 (s_23_20 hC) (fa1 (s_23_21 hC) (fa1 (s_23_24 hC) (fa1 (s_23_25 hC) (fa1 (s_23_26 hC) (fa1 (s_23_29 hC) (fa1 (s_23_31 hC) (fa1 (s_23_32 hC hex) (fa1 (s_23_34 hC) (fa1 (s_23_36 hC) (fa1 (s_23_37 hC) (fa1 (s_23_38 hC) (fa1 (s_23_41 hC) (fa1 (s_23_42 hC) (fa1 (s_23_44 hC) (fa1 (s_23_46 hC) (fa1 (s_23_47 hC) (fa1 (s_23_50 hC) (fa1 (s_23_51 hC) (fa1 (s_23_54 hC) (fa1 (s_23_56 hC) (fa1 (s_23_57 hC) (fa1 (s_23_60 hC) (fa1 (s_23_63 hC) (fa1 (s_23_64 hC) (fa1 (s_23_67 hC) (fa1 (s_23_70 hC) (fa1 (s_23_71 hC) (fa1 (s_23_74 hC) (fa1 (s_23_75 hC) (fa1 (s_23_78 hC) (fa1 (s_23_81 hC) (fa1 (s_23_82 hC) (fa1 (s_23_85 hC) (fa1 (s_23_88 hC) (fa1 (s_23_90 hC) (fa1 (s_23_92 hC) (fa1 (s_23_93 hC) (fa1 (s_23_94 hC) (fa1 (s_23_95 hC) (fa1 (s_23_98 hC) (fa1 (s_23_99 hC) (fa1 (s_23_102 hC) (fa1 (s_23_105 hC) (fa1 (s_23_106 hC) (fa1 (s_23_109 hC) (fa1 (s_23_110 hC) (fa1 (s_23_113 hC) (fa1 (s_23_116 hC) (fa1 (s_23_118 hC) (fa1 (s_23_119 hC) (fa1 (s_23_120 hC) (fa1 (s_23_123 hC) (fa1 (s_23_124 hC hex) (fa1 (s_23_127 hC) (fa1 (s_23_128 hC) (fa1 (s_23_129 hC) (fa1 (s_23_130 hC) (fa1 (s_23_133 hC) (fa1 (s_23_134 hC) (fa1 (s_23_137 hC) (fa1 (s_23_140 hC) (fa1 (s_23_142 hC) (fa1 (s_23_143 hC) (fa1 (s_23_144 hC) (fa1 (s_23_146 hC) (fn1))))))))))))))))))))))))))))))))))))))))))))))))))))))))))))))))))))))))))))
set_option maxRecDepth 100000 in
theorem ms_23 (hex : HB.size = g.1) : MSnd g HB l MM D_23 := ⟨by decide +kernel, fun _ hC => ok_23 hex hC, fa1 (show endOK cX7_read (some (.object "MailArchive$Message")) 149 3 from ⟨⟨_, rfl, Or.inl ⟨_, rfl⟩⟩, (by decide +kernel : decode cX7_read 149 = .ok (.areturn, 1))⟩) (fn1)⟩
end PR1
