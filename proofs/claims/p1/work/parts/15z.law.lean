/-! The law's own body, and its helpers. -/
def PLA (L0 : Nat) (sc : Nat → AV) : List (Nat × FF) := [(0, s_new 9 17 [.inr (.inr .null), .inr (.inr .null), .inr (.inr .null), .inr (.inr .null), .inr (.inr .null), .inr (.inr .null), .inr (.inr .null), .inr (.inr .null), .inr (.inr .null), .inr (.inr .null), .inr (.inr .null), .inr (.inr .null), .inr (.inr .null), .inl 0, .inl 0, .inl 0, .inl 0] 3),
  (3, lf (q_dup 4)),
  (4, s_cI 0 0 20 7),
  (7, lf (q_store isR up1 0 1 7 8)),
  (8, s_new 10 70 [.inl 0, .inr (.inr .null), .inr (.inr .null), .inl 0, .inl 0, .inl 0, .inr (.inr .null), .inr (.inr .null), .inr (.inr .null), .inr (.inr .null), .inr (.inr .null), .inr (.inr .null), .inl 0, .inr (.inr .null), .inr (.inr .null), .inr (.inr .null), .inr (.inl 0), .inr (.inr .null), .inl 0, .inl 0, .inr (.inr .null), .inr (.inr .null), .inr (.inr .null), .inl 0, .inr (.inr .null), .inl 0, .inl 0, .inr (.inr .null), .inl 0, .inl 0, .inr (.inr .null), .inr (.inr .null), .inr (.inr .null), .inl 0, .inr (.inr .null), .inr (.inr .null), .inl 0, .inl 0, .inr (.inr .null), .inr (.inr .null), .inr (.inr .null), .inr (.inr .null), .inr (.inr .null), .inr (.inr .null), .inl 0, .inl 0, .inl 0, .inl 0, .inl 0, .inr (.inr .null), .inr (.inr .null), .inr (.inr .null), .inr (.inr .null), .inr (.inr .null), .inr (.inr .null), .inr (.inr .null), .inr (.inr .null), .inr (.inr .null), .inr (.inr .null), .inr (.inr .null), .inl 0, .inl 0, .inl 0, .inl 0, .inr (.inr .null), .inr (.inr .null), .inr (.inr .null), .inl 0, .inr (.inr .null), .inr (.inr .null)] 11),
  (11, lf (q_dup 12)),
  (12, s_cI 15 0 20 15),
  (15, lf (q_store isR up1 0 2 7 16)),
  (16, lf (q_push (.inl 1) 17)),
  (17, s_newa 3 19),
  (19, lf (q_store isR up1 0 3 7 20)),
  (20, lf (q_push (.inl 0) 21)),
  (21, lf (q_store isI up1 0 4 7 23)),
  (23, lf (q_load isI 4 25)),
  (25, lf (q_load isR 0 26)),
  (26, s_slen L0 27),
  (27, lf (q_push (.inl 6) 29)),
  (29, lf (q_bin (iop2 (fun x y => x - y)) 30)),
  (30, s_br2 4 624 33),
  (33, lf (q_load isR 0 34)),
  (34, lf (q_load isI 4 36)),
  (36, s_sld L0 sc 37),
  (37, lf (q_push (.inl 15) 39)),
  (624, lf (q_push (.inl 1) 625))]
def PLB (L0 : Nat) (sc : Nat → AV) : List (Nat × FF) := [(23, lf (q_load isI 4 25)),
  (25, lf (q_load isR 0 26)),
  (26, s_slen L0 27),
  (27, lf (q_push (.inl 6) 29)),
  (29, lf (q_bin (iop2 (fun x y => x - y)) 30)),
  (30, s_br2 4 624 33),
  (33, lf (q_load isR 0 34)),
  (34, lf (q_load isI 4 36)),
  (36, s_sld L0 sc 37),
  (40, s_table 12 618 [108, 179, 204, 248, 284, 375, 419, 432, 457, 470, 495, 532, 593]),
  (108, lf (q_load isR 1 109)),
  (109, lf (q_load isR 0 110)),
  (110, lf (q_load isI 4 112)),
  (112, lf (q_push (.inl 1) 113)),
  (113, lf (q_bin (iop2 (fun x y => x + y)) 114)),
  (114, s_sld L0 sc 115),
  (115, lf (q_load isR 0 116)),
  (116, lf (q_load isI 4 118)),
  (118, lf (q_push (.inl 2) 119)),
  (119, lf (q_bin (iop2 (fun x y => x + y)) 120)),
  (120, s_sld L0 sc 121),
  (121, lf (q_load isR 0 122)),
  (122, lf (q_load isI 4 124)),
  (124, lf (q_push (.inl 3) 125)),
  (125, lf (q_bin (iop2 (fun x y => x + y)) 126)),
  (126, s_sld L0 sc 127),
  (127, lf (q_load isR 0 128)),
  (128, lf (q_load isI 4 130)),
  (130, lf (q_push (.inl 4) 131)),
  (131, lf (q_bin (iop2 (fun x y => x + y)) 132)),
  (132, s_sld L0 sc 133),
  (133, lf (q_load isR 0 134)),
  (134, lf (q_load isI 4 136)),
  (136, lf (q_push (.inl 5) 137)),
  (137, lf (q_bin (iop2 (fun x y => x + y)) 138)),
  (138, s_sld L0 sc 139),
  (139, s_cV 9 16 5 25 142),
  (142, lf (q_load isR 2 143)),
  (143, lf (q_load isR 0 144)),
  (144, lf (q_load isI 4 146)),
  (146, lf (q_push (.inl 1) 147)),
  (147, lf (q_bin (iop2 (fun x y => x + y)) 148)),
  (148, s_sld L0 sc 149),
  (149, lf (q_load isR 0 150)),
  (150, lf (q_load isI 4 152)),
  (152, lf (q_push (.inl 2) 153)),
  (153, lf (q_bin (iop2 (fun x y => x + y)) 154)),
  (154, s_sld L0 sc 155),
  (155, lf (q_load isR 0 156)),
  (156, lf (q_load isI 4 158)),
  (158, lf (q_push (.inl 3) 159)),
  (159, lf (q_bin (iop2 (fun x y => x + y)) 160)),
  (160, s_sld L0 sc 161),
  (161, lf (q_load isR 0 162)),
  (162, lf (q_load isI 4 164)),
  (164, lf (q_push (.inl 4) 165)),
  (165, lf (q_bin (iop2 (fun x y => x + y)) 166)),
  (166, s_sld L0 sc 167),
  (167, lf (q_load isR 0 168)),
  (168, lf (q_load isI 4 170)),
  (170, lf (q_push (.inl 5) 171)),
  (171, lf (q_bin (iop2 (fun x y => x + y)) 172)),
  (172, s_sld L0 sc 173),
  (173, s_cV 10 96 5 27 176),
  (176, lf (q_goto 618)),
  (179, lf (q_load isR 1 180)),
  (180, lf (q_load isR 0 181)),
  (181, lf (q_load isI 4 183)),
  (183, lf (q_push (.inl 1) 184)),
  (184, lf (q_bin (iop2 (fun x y => x + y)) 185)),
  (185, s_sld L0 sc 186),
  (186, s_cV 9 17 1 21 189),
  (189, lf (q_load isR 2 190)),
  (190, lf (q_load isR 0 191)),
  (191, lf (q_load isI 4 193)),
  (193, lf (q_push (.inl 1) 194)),
  (194, lf (q_bin (iop2 (fun x y => x + y)) 195)),
  (195, s_sld L0 sc 196),
  (196, s_cV 10 97 1 22 199),
  (199, s_br2 0 618 202),
  (204, lf (q_load isR 1 205)),
  (205, lf (q_load isR 3 206)),
  (209, lf (q_store isI up1 0 5 7 211)),
  (211, lf (q_load isR 2 212)),
  (212, s_cV 10 98 0 22 215),
  (215, lf (q_store isI up1 0 6 7 217)),
  (217, lf (q_load isR 2 218)),
  (218, s_cV 10 114 0 20 221),
  (221, lf (q_load isI 5 223)),
  (223, s_br2 0 228 226),
  (228, lf (q_load isI 5 230)),
  (230, s_br1 1 245 233),
  (233, lf (q_load isR 3 234)),
  (234, lf (q_push (.inl 0) 235)),
  (235, s_ald (fun t => Nat.beq t 3) isL (.inr (.inl 0)) 236),
  (236, lf (q_load isI 6 238)),
  (238, lf (q_un f_i2l 239)),
  (239, lf (q_bin f_lcmp 240)),
  (240, s_br1 0 245 243),
  (245, lf (q_goto 618)),
  (248, lf (q_load isR 1 249)),
  (249, lf (q_load isR 0 250)),
  (250, lf (q_load isI 4 252)),
  (252, lf (q_push (.inl 1) 253)),
  (253, lf (q_bin (iop2 (fun x y => x + y)) 254)),
  (254, s_sld L0 sc 255),
  (284, lf (q_load isR 1 285)),
  (285, lf (q_load isR 0 286)),
  (286, lf (q_load isI 4 288)),
  (288, lf (q_push (.inl 1) 289)),
  (289, lf (q_bin (iop2 (fun x y => x + y)) 290)),
  (290, s_sld L0 sc 291),
  (291, lf (q_load isR 0 292)),
  (292, lf (q_load isI 4 294)),
  (294, lf (q_push (.inl 2) 295)),
  (295, lf (q_bin (iop2 (fun x y => x + y)) 296)),
  (296, s_sld L0 sc 297),
  (297, s_br1 0 304 300),
  (300, lf (q_push (.inl 1) 301)),
  (301, lf (q_goto 305)),
  (304, lf (q_push (.inl 0) 305)),
  (305, lf (q_load isR 3 306)),
  (375, lf (q_load isR 1 376)),
  (376, lf (q_load isR 3 377)),
  (380, lf (q_store isI up1 0 5 7 382)),
  (382, lf (q_load isR 2 383)),
  (383, s_cV 10 103 0 22 386),
  (386, lf (q_store isI up1 0 6 7 388)),
  (388, lf (q_load isR 2 389)),
  (389, s_cV 10 114 0 20 392),
  (392, lf (q_load isI 5 394)),
  (394, s_br2 0 399 397),
  (399, lf (q_load isI 5 401)),
  (401, s_br1 1 416 404),
  (404, lf (q_load isR 3 405)),
  (405, lf (q_push (.inl 0) 406)),
  (406, s_ald (fun t => Nat.beq t 3) isL (.inr (.inl 0)) 407),
  (407, lf (q_load isI 6 409)),
  (409, lf (q_un f_i2l 410)),
  (410, lf (q_bin f_lcmp 411)),
  (411, s_br1 0 416 414),
  (416, lf (q_goto 618)),
  (419, lf (q_load isR 1 420)),
  (420, s_cV 9 84 0 20 423),
  (423, lf (q_load isR 2 424)),
  (424, s_cV 10 107 0 20 427),
  (427, s_br2 0 618 430),
  (432, lf (q_load isR 1 433)),
  (433, lf (q_load isR 0 434)),
  (434, lf (q_load isI 4 436)),
  (436, lf (q_push (.inl 1) 437)),
  (437, lf (q_bin (iop2 (fun x y => x + y)) 438)),
  (438, s_sld L0 sc 439),
  (439, s_cV 9 85 1 21 442),
  (442, lf (q_load isR 2 443)),
  (443, lf (q_load isR 0 444)),
  (444, lf (q_load isI 4 446)),
  (446, lf (q_push (.inl 1) 447)),
  (447, lf (q_bin (iop2 (fun x y => x + y)) 448)),
  (448, s_sld L0 sc 449),
  (449, s_cV 10 108 1 21 452),
  (452, s_br2 0 618 455),
  (457, lf (q_load isR 1 458)),
  (458, s_cV 9 87 0 22 461),
  (461, lf (q_load isR 2 462)),
  (462, s_cV 10 110 0 24 465),
  (465, s_br2 0 618 468),
  (470, lf (q_load isR 1 471)),
  (471, lf (q_load isR 0 472)),
  (472, lf (q_load isI 4 474)),
  (474, lf (q_push (.inl 1) 475)),
  (475, lf (q_bin (iop2 (fun x y => x + y)) 476)),
  (476, s_sld L0 sc 477),
  (477, s_cV 9 86 1 21 480),
  (480, lf (q_load isR 2 481)),
  (481, lf (q_load isR 0 482)),
  (482, lf (q_load isI 4 484)),
  (484, lf (q_push (.inl 1) 485)),
  (485, lf (q_bin (iop2 (fun x y => x + y)) 486)),
  (486, s_sld L0 sc 487),
  (487, s_cV 10 109 1 21 490),
  (490, s_br2 0 618 493),
  (495, lf (q_load isR 1 496)),
  (496, lf (q_load isR 0 497)),
  (497, lf (q_load isI 4 499)),
  (499, lf (q_push (.inl 1) 500)),
  (500, lf (q_bin (iop2 (fun x y => x + y)) 501)),
  (501, s_sld L0 sc 502),
  (502, lf (q_load isR 0 503)),
  (503, lf (q_load isI 4 505)),
  (505, lf (q_push (.inl 2) 506)),
  (506, lf (q_bin (iop2 (fun x y => x + y)) 507)),
  (507, s_sld L0 sc 508),
  (508, s_cV 9 90 2 24 511),
  (511, lf (q_load isR 2 512)),
  (512, lf (q_load isR 0 513)),
  (513, lf (q_load isI 4 515)),
  (515, lf (q_push (.inl 1) 516)),
  (516, lf (q_bin (iop2 (fun x y => x + y)) 517)),
  (517, s_sld L0 sc 518),
  (518, lf (q_load isR 0 519)),
  (519, lf (q_load isI 4 521)),
  (521, lf (q_push (.inl 2) 522)),
  (522, lf (q_bin (iop2 (fun x y => x + y)) 523)),
  (523, s_sld L0 sc 524),
  (524, s_cV 10 111 2 22 527),
  (527, s_br2 0 618 530),
  (532, lf (q_load isR 1 533)),
  (533, lf (q_load isR 0 534)),
  (534, lf (q_load isI 4 536)),
  (536, lf (q_push (.inl 1) 537)),
  (537, lf (q_bin (iop2 (fun x y => x + y)) 538)),
  (538, s_sld L0 sc 539),
  (539, lf (q_load isR 0 540)),
  (540, lf (q_load isI 4 542)),
  (542, lf (q_push (.inl 2) 543)),
  (543, lf (q_bin (iop2 (fun x y => x + y)) 544)),
  (544, s_sld L0 sc 545),
  (545, lf (q_load isR 0 546)),
  (546, lf (q_load isI 4 548)),
  (548, lf (q_push (.inl 3) 549)),
  (549, lf (q_bin (iop2 (fun x y => x + y)) 550)),
  (550, s_sld L0 sc 551),
  (551, lf (q_load isR 0 552)),
  (552, lf (q_load isI 4 554)),
  (554, lf (q_push (.inl 4) 555)),
  (555, lf (q_bin (iop2 (fun x y => x + y)) 556)),
  (556, s_sld L0 sc 557),
  (557, s_cV 9 91 4 26 560),
  (560, lf (q_load isR 2 561)),
  (561, lf (q_load isR 0 562)),
  (562, lf (q_load isI 4 564)),
  (564, lf (q_push (.inl 1) 565)),
  (565, lf (q_bin (iop2 (fun x y => x + y)) 566)),
  (566, s_sld L0 sc 567),
  (567, lf (q_load isR 0 568)),
  (568, lf (q_load isI 4 570)),
  (570, lf (q_push (.inl 2) 571)),
  (571, lf (q_bin (iop2 (fun x y => x + y)) 572)),
  (572, s_sld L0 sc 573),
  (573, lf (q_load isR 0 574)),
  (574, lf (q_load isI 4 576)),
  (576, lf (q_push (.inl 3) 577)),
  (577, lf (q_bin (iop2 (fun x y => x + y)) 578)),
  (578, s_sld L0 sc 579),
  (579, lf (q_load isR 0 580)),
  (580, lf (q_load isI 4 582)),
  (582, lf (q_push (.inl 4) 583)),
  (583, lf (q_bin (iop2 (fun x y => x + y)) 584)),
  (584, s_sld L0 sc 585),
  (585, s_cV 10 112 4 24 588),
  (588, s_br2 0 618 591),
  (593, lf (q_load isR 1 594)),
  (594, lf (q_load isR 0 595)),
  (595, lf (q_load isI 4 597)),
  (597, lf (q_push (.inl 1) 598)),
  (598, lf (q_bin (iop2 (fun x y => x + y)) 599)),
  (599, s_sld L0 sc 600),
  (600, s_cV 9 92 1 21 603),
  (603, lf (q_load isR 2 604)),
  (604, lf (q_load isR 0 605)),
  (605, lf (q_load isI 4 607)),
  (607, lf (q_push (.inl 1) 608)),
  (608, lf (q_bin (iop2 (fun x y => x + y)) 609)),
  (609, s_sld L0 sc 610),
  (610, s_cV 10 113 1 24 613),
  (613, s_br2 0 618 616),
  (618, lf (q_iinc 4 6 7 621)),
  (621, lf (q_goto 23)),
  (624, lf (q_push (.inl 1) 625))]
def PH_add : List (Nat × FF) := [(0, lf (q_load isR 1 1)),
  (1, lf (q_push (.inl 0) 2)),
  (2, lf (q_load isR 0 3)),
  (3, s_cV 9 21 0 20 6),
  (6, lf (q_un f_i2l 7)),
  (7, s_ast (fun t => Nat.beq t 3) cvL 8),
  (8, lf (q_goto 14)),
  (14, lf (q_push (.inl 0) 15))]
def PH_search : List (Nat × FF) := [(0, lf (q_load isR 1 1)),
  (1, lf (q_push (.inl 0) 2)),
  (2, lf (q_load isR 0 3)),
  (3, s_cV 9 75 0 22 6),
  (6, lf (q_un f_i2l 7)),
  (7, s_ast (fun t => Nat.beq t 3) cvL 8),
  (8, lf (q_goto 14)),
  (14, lf (q_push (.inl 0) 15))]
def PH_remove : List (Nat × FF) := [(0, lf (q_load isR 0 1)),
  (1, lf (q_load isI 1 2))]
def PH_tag : List (Nat × FF) := [(0, lf (q_load isR 3 1)),
  (1, lf (q_push (.inl 0) 2)),
  (2, lf (q_load isR 0 3)),
  (3, lf (q_load isI 1 4)),
  (4, lf (q_load isI 2 5))]
theorem faz {α : Type} {p : α → Prop} {a : α} {l : List α} (h : p a) (t : ∀ x ∈ l, p x) : ∀ x ∈ a :: l, p x := List.forall_mem_cons.mpr ⟨h, t⟩
theorem fnz {α : Type} {p : α → Prop} : ∀ x ∈ ([] : List α), p x := fun _ h => absurd h List.not_mem_nil
section PRX
variable {g : GG} {HB : Heap} {l : Launch} {call : CallF} {L0 : Nat} {sc : Nat → AV}
set_option maxRecDepth 100000 in
theorem la_0 (hC : SndC g HB l MM call) (hex : HB.size = g.1) : Snd g HB l call cL_law 7 yL_law.cls yL_law.name 0 (s_new 9 17 [.inr (.inr .null), .inr (.inr .null), .inr (.inr .null), .inr (.inr .null), .inr (.inr .null), .inr (.inr .null), .inr (.inr .null), .inr (.inr .null), .inr (.inr .null), .inr (.inr .null), .inr (.inr .null), .inr (.inr .null), .inr (.inr .null), .inl 0, .inl 0, .inl 0, .inl 0] 3) := h_new hex (C := RX11) (T := TX11) (N := 17) (ci := 9) rfl (by decide +kernel) (by decide +kernel) (tin 1 32 (by decide +kernel) rfl) (tin 1 33 (by decide +kernel) rfl) (tin 1 1 (by decide +kernel) rfl) (by decide +kernel : decode cL_law 0 = .ok (.new 8, 3)) rfl
set_option maxRecDepth 100000 in
theorem la_3 (hC : SndC g HB l MM call) : Snd g HB l call cL_law 7 yL_law.cls yL_law.name 3 (lf (q_dup 4)) := lf_ok (p_dup (by decide +kernel : decode cL_law 3 = .ok (.dup, 1)) rfl)
set_option maxRecDepth 100000 in
theorem la_4 (hC : SndC g HB l MM call) : Snd g HB l call cL_law 7 yL_law.cls yL_law.name 4 (s_cI 0 0 20 7) := c_I hC (M := MM) (id := 0) (d := D_0) rfl mok_0 rfl rfl rfl (tin 1 34 (by decide +kernel) rfl) (tin 1 35 (by decide +kernel) rfl) (tin 1 1 (by decide +kernel) rfl) (by decide +kernel : decode cL_law 4 = .ok (.invokespecial 30, 3)) rfl
set_option maxRecDepth 100000 in
theorem la_7 (hC : SndC g HB l MM call) : Snd g HB l call cL_law 7 yL_law.cls yL_law.name 7 (lf (q_store isR up1 0 1 7 8)) := lf_ok (p_astore_n (by decide +kernel : decode cL_law 7 = .ok (.astore_n 1, 1)) rfl rfl)
set_option maxRecDepth 100000 in
theorem la_8 (hC : SndC g HB l MM call) (hex : HB.size = g.1) : Snd g HB l call cL_law 7 yL_law.cls yL_law.name 8 (s_new 10 70 [.inl 0, .inr (.inr .null), .inr (.inr .null), .inl 0, .inl 0, .inl 0, .inr (.inr .null), .inr (.inr .null), .inr (.inr .null), .inr (.inr .null), .inr (.inr .null), .inr (.inr .null), .inl 0, .inr (.inr .null), .inr (.inr .null), .inr (.inr .null), .inr (.inl 0), .inr (.inr .null), .inl 0, .inl 0, .inr (.inr .null), .inr (.inr .null), .inr (.inr .null), .inl 0, .inr (.inr .null), .inl 0, .inl 0, .inr (.inr .null), .inl 0, .inl 0, .inr (.inr .null), .inr (.inr .null), .inr (.inr .null), .inl 0, .inr (.inr .null), .inr (.inr .null), .inl 0, .inl 0, .inr (.inr .null), .inr (.inr .null), .inr (.inr .null), .inr (.inr .null), .inr (.inr .null), .inr (.inr .null), .inl 0, .inl 0, .inl 0, .inl 0, .inl 0, .inr (.inr .null), .inr (.inr .null), .inr (.inr .null), .inr (.inr .null), .inr (.inr .null), .inr (.inr .null), .inr (.inr .null), .inr (.inr .null), .inr (.inr .null), .inr (.inr .null), .inr (.inr .null), .inl 0, .inl 0, .inl 0, .inl 0, .inr (.inr .null), .inr (.inr .null), .inr (.inr .null), .inl 0, .inr (.inr .null), .inr (.inr .null)] 11) := h_new hex (C := RX12) (T := TX12) (N := 70) (ci := 10) rfl (by decide +kernel) (by decide +kernel) (tin 6 151 (by decide +kernel) rfl) (tin 6 152 (by decide +kernel) rfl) (tin 1 12 (by decide +kernel) rfl) (by decide +kernel : decode cL_law 8 = .ok (.new 31, 3)) rfl
set_option maxRecDepth 100000 in
theorem la_11 (hC : SndC g HB l MM call) : Snd g HB l call cL_law 7 yL_law.cls yL_law.name 11 (lf (q_dup 12)) := lf_ok (p_dup (by decide +kernel : decode cL_law 11 = .ok (.dup, 1)) rfl)
set_option maxRecDepth 100000 in
theorem la_12 (hC : SndC g HB l MM call) : Snd g HB l call cL_law 7 yL_law.cls yL_law.name 12 (s_cI 15 0 20 15) := c_I hC (M := MM) (id := 15) (d := D_15) rfl mok_15 rfl rfl rfl (tin 6 153 (by decide +kernel) rfl) (tin 6 154 (by decide +kernel) rfl) (tin 1 12 (by decide +kernel) rfl) (by decide +kernel : decode cL_law 12 = .ok (.invokespecial 33, 3)) rfl
set_option maxRecDepth 100000 in
theorem la_15 (hC : SndC g HB l MM call) : Snd g HB l call cL_law 7 yL_law.cls yL_law.name 15 (lf (q_store isR up1 0 2 7 16)) := lf_ok (p_astore_n (by decide +kernel : decode cL_law 15 = .ok (.astore_n 2, 1)) rfl rfl)
set_option maxRecDepth 100000 in
theorem la_16 (hC : SndC g HB l MM call) : Snd g HB l call cL_law 7 yL_law.cls yL_law.name 16 (lf (q_push (.inl 1) 17)) := lf_ok (p_iconst (by decide +kernel : decode cL_law 16 = .ok (.iconst 1, 1)) (by decide +kernel) rfl)
set_option maxRecDepth 100000 in
theorem la_17 (hC : SndC g HB l MM call) (hex : HB.size = g.1) : Snd g HB l call cL_law 7 yL_law.cls yL_law.name 17 (s_newa 3 19) := h_newa hex (t := 3) (by decide) rfl (tin 2 24 (by decide +kernel) rfl) (by decide +kernel : decode cL_law 17 = .ok (.newarray .long, 2)) rfl
set_option maxRecDepth 100000 in
theorem la_19 (hC : SndC g HB l MM call) : Snd g HB l call cL_law 7 yL_law.cls yL_law.name 19 (lf (q_store isR up1 0 3 7 20)) := lf_ok (p_astore_n (by decide +kernel : decode cL_law 19 = .ok (.astore_n 3, 1)) rfl rfl)
set_option maxRecDepth 100000 in
theorem la_20 (hC : SndC g HB l MM call) : Snd g HB l call cL_law 7 yL_law.cls yL_law.name 20 (lf (q_push (.inl 0) 21)) := lf_ok (p_iconst (by decide +kernel : decode cL_law 20 = .ok (.iconst 0, 1)) (by decide +kernel) rfl)
set_option maxRecDepth 100000 in
theorem la_21 (hC : SndC g HB l MM call) : Snd g HB l call cL_law 7 yL_law.cls yL_law.name 21 (lf (q_store isI up1 0 4 7 23)) := lf_ok (p_istore (by decide +kernel : decode cL_law 21 = .ok (.istore 4, 2)) rfl)
set_option maxRecDepth 100000 in
theorem la_23 (hC : SndC g HB l MM call) : Snd g HB l call cL_law 7 yL_law.cls yL_law.name 23 (lf (q_load isI 4 25)) := lf_ok (p_iload (by decide +kernel : decode cL_law 23 = .ok (.iload 4, 2)) rfl)
set_option maxRecDepth 100000 in
theorem la_25 (hC : SndC g HB l MM call) : Snd g HB l call cL_law 7 yL_law.cls yL_law.name 25 (lf (q_load isR 0 26)) := lf_ok (p_aload_n (by decide +kernel : decode cL_law 25 = .ok (.aload_n 0, 1)) rfl rfl)
set_option maxRecDepth 100000 in
theorem la_26 (hC : SndC g HB l MM call) (hL : g.2.1 91 = L0) : Snd g HB l call cL_law 7 yL_law.cls yL_law.name 26 (s_slen L0 27) := m_slen hL (by decide +kernel : decode cL_law 26 = .ok (.arraylength, 1)) rfl
set_option maxRecDepth 100000 in
theorem la_27 (hC : SndC g HB l MM call) : Snd g HB l call cL_law 7 yL_law.cls yL_law.name 27 (lf (q_push (.inl 6) 29)) := lf_ok (p_bipush (by decide +kernel : decode cL_law 27 = .ok (.bipush 6, 2)) (by decide +kernel) rfl)
set_option maxRecDepth 100000 in
theorem la_29 (hC : SndC g HB l MM call) : Snd g HB l call cL_law 7 yL_law.cls yL_law.name 29 (lf (q_bin (iop2 (fun x y => x - y)) 30)) := lf_ok (p_isub (by decide +kernel : decode cL_law 29 = .ok (.isub, 1)) rfl)
set_option maxRecDepth 100000 in
theorem la_30 (hC : SndC g HB l MM call) : Snd g HB l call cL_law 7 yL_law.cls yL_law.name 30 (s_br2 4 624 33) := b_igt (by decide +kernel : decode cL_law 30 = .ok (.if_icmp .gt 594, 3)) (by decide) rfl
set_option maxRecDepth 100000 in
theorem la_33 (hC : SndC g HB l MM call) : Snd g HB l call cL_law 7 yL_law.cls yL_law.name 33 (lf (q_load isR 0 34)) := lf_ok (p_aload_n (by decide +kernel : decode cL_law 33 = .ok (.aload_n 0, 1)) rfl rfl)
set_option maxRecDepth 100000 in
theorem la_34 (hC : SndC g HB l MM call) : Snd g HB l call cL_law 7 yL_law.cls yL_law.name 34 (lf (q_load isI 4 36)) := lf_ok (p_iload (by decide +kernel : decode cL_law 34 = .ok (.iload 4, 2)) rfl)
set_option maxRecDepth 100000 in
theorem la_36 (hC : SndC g HB l MM call) (hL : g.2.1 91 = L0) (hsc : ∀ j, j < L0 → cV g (sc j) = .int (nI (g.2.1 (2000 + j)))) : Snd g HB l call cL_law 7 yL_law.cls yL_law.name 36 (s_sld L0 sc 37) := m_sld hL hsc (by decide +kernel : decode cL_law 36 = .ok (.iaload, 1)) rfl
set_option maxRecDepth 100000 in
theorem la_37 (hC : SndC g HB l MM call) : Snd g HB l call cL_law 7 yL_law.cls yL_law.name 37 (lf (q_push (.inl 15) 39)) := lf_ok (p_bipush (by decide +kernel : decode cL_law 37 = .ok (.bipush 15, 2)) (by decide +kernel) rfl)
set_option maxRecDepth 100000 in
theorem la_624 (hC : SndC g HB l MM call) : Snd g HB l call cL_law 7 yL_law.cls yL_law.name 624 (lf (q_push (.inl 1) 625)) := lf_ok (p_iconst (by decide +kernel : decode cL_law 624 = .ok (.iconst 1, 1)) (by decide +kernel) rfl)
set_option maxRecDepth 100000 in
theorem la_ok (hex : HB.size = g.1) (hL : g.2.1 91 = L0) (hsc : ∀ j, j < L0 → cV g (sc j) = .int (nI (g.2.1 (2000 + j)))) (hC : SndC g HB l MM call) : ∀ x ∈ PLA L0 sc, Snd g HB l call cL_law 7 yL_law.cls yL_law.name x.1 x.2 := faz (la_0 hC hex) (faz (la_3 hC) (faz (la_4 hC) (faz (la_7 hC) (faz (la_8 hC hex) (faz (la_11 hC) (faz (la_12 hC) (faz (la_15 hC) (faz (la_16 hC) (faz (la_17 hC hex) (faz (la_19 hC) (faz (la_20 hC) (faz (la_21 hC) (faz (la_23 hC) (faz (la_25 hC) (faz (la_26 hC hL) (faz (la_27 hC) (faz (la_29 hC) (faz (la_30 hC) (faz (la_33 hC) (faz (la_34 hC) (faz (la_36 hC hL hsc) (faz (la_37 hC) (faz (la_624 hC) (fnz))))))))))))))))))))))))
set_option maxRecDepth 100000 in
theorem lb_23 (hC : SndC g HB l MM call) : Snd g HB l call cL_law 7 yL_law.cls yL_law.name 23 (lf (q_load isI 4 25)) := lf_ok (p_iload (by decide +kernel : decode cL_law 23 = .ok (.iload 4, 2)) rfl)
set_option maxRecDepth 100000 in
theorem lb_25 (hC : SndC g HB l MM call) : Snd g HB l call cL_law 7 yL_law.cls yL_law.name 25 (lf (q_load isR 0 26)) := lf_ok (p_aload_n (by decide +kernel : decode cL_law 25 = .ok (.aload_n 0, 1)) rfl rfl)
set_option maxRecDepth 100000 in
theorem lb_26 (hC : SndC g HB l MM call) (hL : g.2.1 91 = L0) : Snd g HB l call cL_law 7 yL_law.cls yL_law.name 26 (s_slen L0 27) := m_slen hL (by decide +kernel : decode cL_law 26 = .ok (.arraylength, 1)) rfl
set_option maxRecDepth 100000 in
theorem lb_27 (hC : SndC g HB l MM call) : Snd g HB l call cL_law 7 yL_law.cls yL_law.name 27 (lf (q_push (.inl 6) 29)) := lf_ok (p_bipush (by decide +kernel : decode cL_law 27 = .ok (.bipush 6, 2)) (by decide +kernel) rfl)
set_option maxRecDepth 100000 in
theorem lb_29 (hC : SndC g HB l MM call) : Snd g HB l call cL_law 7 yL_law.cls yL_law.name 29 (lf (q_bin (iop2 (fun x y => x - y)) 30)) := lf_ok (p_isub (by decide +kernel : decode cL_law 29 = .ok (.isub, 1)) rfl)
set_option maxRecDepth 100000 in
theorem lb_30 (hC : SndC g HB l MM call) : Snd g HB l call cL_law 7 yL_law.cls yL_law.name 30 (s_br2 4 624 33) := b_igt (by decide +kernel : decode cL_law 30 = .ok (.if_icmp .gt 594, 3)) (by decide) rfl
set_option maxRecDepth 100000 in
theorem lb_33 (hC : SndC g HB l MM call) : Snd g HB l call cL_law 7 yL_law.cls yL_law.name 33 (lf (q_load isR 0 34)) := lf_ok (p_aload_n (by decide +kernel : decode cL_law 33 = .ok (.aload_n 0, 1)) rfl rfl)
set_option maxRecDepth 100000 in
theorem lb_34 (hC : SndC g HB l MM call) : Snd g HB l call cL_law 7 yL_law.cls yL_law.name 34 (lf (q_load isI 4 36)) := lf_ok (p_iload (by decide +kernel : decode cL_law 34 = .ok (.iload 4, 2)) rfl)
set_option maxRecDepth 100000 in
theorem lb_36 (hC : SndC g HB l MM call) (hL : g.2.1 91 = L0) (hsc : ∀ j, j < L0 → cV g (sc j) = .int (nI (g.2.1 (2000 + j)))) : Snd g HB l call cL_law 7 yL_law.cls yL_law.name 36 (s_sld L0 sc 37) := m_sld hL hsc (by decide +kernel : decode cL_law 36 = .ok (.iaload, 1)) rfl
set_option maxRecDepth 100000 in
theorem lb_40 (hC : SndC g HB l MM call) : Snd g HB l call cL_law 7 yL_law.cls yL_law.name 40 (s_table 12 618 [108, 179, 204, 248, 284, 375, 419, 432, 457, 470, 495, 532, 593]) := b_table (by decide) (by decide +kernel : decode cL_law 40 = .ok (.tableswitch 578 0 12 #[68, 139, 164, 208, 244, 335, 379, 392, 417, 430, 455, 492, 553], 68)) (by decide) (by decide)
set_option maxRecDepth 100000 in
theorem lb_108 (hC : SndC g HB l MM call) : Snd g HB l call cL_law 7 yL_law.cls yL_law.name 108 (lf (q_load isR 1 109)) := lf_ok (p_aload_n (by decide +kernel : decode cL_law 108 = .ok (.aload_n 1, 1)) rfl rfl)
set_option maxRecDepth 100000 in
theorem lb_109 (hC : SndC g HB l MM call) : Snd g HB l call cL_law 7 yL_law.cls yL_law.name 109 (lf (q_load isR 0 110)) := lf_ok (p_aload_n (by decide +kernel : decode cL_law 109 = .ok (.aload_n 0, 1)) rfl rfl)
set_option maxRecDepth 100000 in
theorem lb_110 (hC : SndC g HB l MM call) : Snd g HB l call cL_law 7 yL_law.cls yL_law.name 110 (lf (q_load isI 4 112)) := lf_ok (p_iload (by decide +kernel : decode cL_law 110 = .ok (.iload 4, 2)) rfl)
set_option maxRecDepth 100000 in
theorem lb_112 (hC : SndC g HB l MM call) : Snd g HB l call cL_law 7 yL_law.cls yL_law.name 112 (lf (q_push (.inl 1) 113)) := lf_ok (p_iconst (by decide +kernel : decode cL_law 112 = .ok (.iconst 1, 1)) (by decide +kernel) rfl)
set_option maxRecDepth 100000 in
theorem lb_113 (hC : SndC g HB l MM call) : Snd g HB l call cL_law 7 yL_law.cls yL_law.name 113 (lf (q_bin (iop2 (fun x y => x + y)) 114)) := lf_ok (p_iadd (by decide +kernel : decode cL_law 113 = .ok (.iadd, 1)) rfl)
set_option maxRecDepth 100000 in
theorem lb_114 (hC : SndC g HB l MM call) (hL : g.2.1 91 = L0) (hsc : ∀ j, j < L0 → cV g (sc j) = .int (nI (g.2.1 (2000 + j)))) : Snd g HB l call cL_law 7 yL_law.cls yL_law.name 114 (s_sld L0 sc 115) := m_sld hL hsc (by decide +kernel : decode cL_law 114 = .ok (.iaload, 1)) rfl
set_option maxRecDepth 100000 in
theorem lb_115 (hC : SndC g HB l MM call) : Snd g HB l call cL_law 7 yL_law.cls yL_law.name 115 (lf (q_load isR 0 116)) := lf_ok (p_aload_n (by decide +kernel : decode cL_law 115 = .ok (.aload_n 0, 1)) rfl rfl)
set_option maxRecDepth 100000 in
theorem lb_116 (hC : SndC g HB l MM call) : Snd g HB l call cL_law 7 yL_law.cls yL_law.name 116 (lf (q_load isI 4 118)) := lf_ok (p_iload (by decide +kernel : decode cL_law 116 = .ok (.iload 4, 2)) rfl)
set_option maxRecDepth 100000 in
theorem lb_118 (hC : SndC g HB l MM call) : Snd g HB l call cL_law 7 yL_law.cls yL_law.name 118 (lf (q_push (.inl 2) 119)) := lf_ok (p_iconst (by decide +kernel : decode cL_law 118 = .ok (.iconst 2, 1)) (by decide +kernel) rfl)
set_option maxRecDepth 100000 in
theorem lb_119 (hC : SndC g HB l MM call) : Snd g HB l call cL_law 7 yL_law.cls yL_law.name 119 (lf (q_bin (iop2 (fun x y => x + y)) 120)) := lf_ok (p_iadd (by decide +kernel : decode cL_law 119 = .ok (.iadd, 1)) rfl)
set_option maxRecDepth 100000 in
theorem lb_120 (hC : SndC g HB l MM call) (hL : g.2.1 91 = L0) (hsc : ∀ j, j < L0 → cV g (sc j) = .int (nI (g.2.1 (2000 + j)))) : Snd g HB l call cL_law 7 yL_law.cls yL_law.name 120 (s_sld L0 sc 121) := m_sld hL hsc (by decide +kernel : decode cL_law 120 = .ok (.iaload, 1)) rfl
set_option maxRecDepth 100000 in
theorem lb_121 (hC : SndC g HB l MM call) : Snd g HB l call cL_law 7 yL_law.cls yL_law.name 121 (lf (q_load isR 0 122)) := lf_ok (p_aload_n (by decide +kernel : decode cL_law 121 = .ok (.aload_n 0, 1)) rfl rfl)
set_option maxRecDepth 100000 in
theorem lb_122 (hC : SndC g HB l MM call) : Snd g HB l call cL_law 7 yL_law.cls yL_law.name 122 (lf (q_load isI 4 124)) := lf_ok (p_iload (by decide +kernel : decode cL_law 122 = .ok (.iload 4, 2)) rfl)
set_option maxRecDepth 100000 in
theorem lb_124 (hC : SndC g HB l MM call) : Snd g HB l call cL_law 7 yL_law.cls yL_law.name 124 (lf (q_push (.inl 3) 125)) := lf_ok (p_iconst (by decide +kernel : decode cL_law 124 = .ok (.iconst 3, 1)) (by decide +kernel) rfl)
set_option maxRecDepth 100000 in
theorem lb_125 (hC : SndC g HB l MM call) : Snd g HB l call cL_law 7 yL_law.cls yL_law.name 125 (lf (q_bin (iop2 (fun x y => x + y)) 126)) := lf_ok (p_iadd (by decide +kernel : decode cL_law 125 = .ok (.iadd, 1)) rfl)
set_option maxRecDepth 100000 in
theorem lb_126 (hC : SndC g HB l MM call) (hL : g.2.1 91 = L0) (hsc : ∀ j, j < L0 → cV g (sc j) = .int (nI (g.2.1 (2000 + j)))) : Snd g HB l call cL_law 7 yL_law.cls yL_law.name 126 (s_sld L0 sc 127) := m_sld hL hsc (by decide +kernel : decode cL_law 126 = .ok (.iaload, 1)) rfl
set_option maxRecDepth 100000 in
theorem lb_127 (hC : SndC g HB l MM call) : Snd g HB l call cL_law 7 yL_law.cls yL_law.name 127 (lf (q_load isR 0 128)) := lf_ok (p_aload_n (by decide +kernel : decode cL_law 127 = .ok (.aload_n 0, 1)) rfl rfl)
set_option maxRecDepth 100000 in
theorem lb_128 (hC : SndC g HB l MM call) : Snd g HB l call cL_law 7 yL_law.cls yL_law.name 128 (lf (q_load isI 4 130)) := lf_ok (p_iload (by decide +kernel : decode cL_law 128 = .ok (.iload 4, 2)) rfl)
set_option maxRecDepth 100000 in
theorem lb_130 (hC : SndC g HB l MM call) : Snd g HB l call cL_law 7 yL_law.cls yL_law.name 130 (lf (q_push (.inl 4) 131)) := lf_ok (p_iconst (by decide +kernel : decode cL_law 130 = .ok (.iconst 4, 1)) (by decide +kernel) rfl)
set_option maxRecDepth 100000 in
theorem lb_131 (hC : SndC g HB l MM call) : Snd g HB l call cL_law 7 yL_law.cls yL_law.name 131 (lf (q_bin (iop2 (fun x y => x + y)) 132)) := lf_ok (p_iadd (by decide +kernel : decode cL_law 131 = .ok (.iadd, 1)) rfl)
set_option maxRecDepth 100000 in
theorem lb_132 (hC : SndC g HB l MM call) (hL : g.2.1 91 = L0) (hsc : ∀ j, j < L0 → cV g (sc j) = .int (nI (g.2.1 (2000 + j)))) : Snd g HB l call cL_law 7 yL_law.cls yL_law.name 132 (s_sld L0 sc 133) := m_sld hL hsc (by decide +kernel : decode cL_law 132 = .ok (.iaload, 1)) rfl
set_option maxRecDepth 100000 in
theorem lb_133 (hC : SndC g HB l MM call) : Snd g HB l call cL_law 7 yL_law.cls yL_law.name 133 (lf (q_load isR 0 134)) := lf_ok (p_aload_n (by decide +kernel : decode cL_law 133 = .ok (.aload_n 0, 1)) rfl rfl)
set_option maxRecDepth 100000 in
theorem lb_134 (hC : SndC g HB l MM call) : Snd g HB l call cL_law 7 yL_law.cls yL_law.name 134 (lf (q_load isI 4 136)) := lf_ok (p_iload (by decide +kernel : decode cL_law 134 = .ok (.iload 4, 2)) rfl)
set_option maxRecDepth 100000 in
theorem lb_136 (hC : SndC g HB l MM call) : Snd g HB l call cL_law 7 yL_law.cls yL_law.name 136 (lf (q_push (.inl 5) 137)) := lf_ok (p_iconst (by decide +kernel : decode cL_law 136 = .ok (.iconst 5, 1)) (by decide +kernel) rfl)
set_option maxRecDepth 100000 in
theorem lb_137 (hC : SndC g HB l MM call) : Snd g HB l call cL_law 7 yL_law.cls yL_law.name 137 (lf (q_bin (iop2 (fun x y => x + y)) 138)) := lf_ok (p_iadd (by decide +kernel : decode cL_law 137 = .ok (.iadd, 1)) rfl)
set_option maxRecDepth 100000 in
theorem lb_138 (hC : SndC g HB l MM call) (hL : g.2.1 91 = L0) (hsc : ∀ j, j < L0 → cV g (sc j) = .int (nI (g.2.1 (2000 + j)))) : Snd g HB l call cL_law 7 yL_law.cls yL_law.name 138 (s_sld L0 sc 139) := m_sld hL hsc (by decide +kernel : decode cL_law 138 = .ok (.iaload, 1)) rfl
set_option maxRecDepth 100000 in
theorem lb_139 (hC : SndC g HB l MM call) : Snd g HB l call cL_law 7 yL_law.cls yL_law.name 139 (s_cV 9 16 5 25 142) := c_V (C := RX11) (T := TX11) (N := 17) (ci := 9) rfl hC (M := MM) (id := 16) (d := D_16) rfl mok_16 rfl rfl (tin 2 147 (by decide +kernel) rfl) (tin 2 148 (by decide +kernel) rfl) (tin 2 149 (by decide +kernel) rfl) (tin 1 1 (by decide +kernel) rfl) (by decide +kernel : decode cL_law 139 = .ok (.invokevirtual 34, 3)) rfl
set_option maxRecDepth 100000 in
theorem lb_142 (hC : SndC g HB l MM call) : Snd g HB l call cL_law 7 yL_law.cls yL_law.name 142 (lf (q_load isR 2 143)) := lf_ok (p_aload_n (by decide +kernel : decode cL_law 142 = .ok (.aload_n 2, 1)) rfl rfl)
set_option maxRecDepth 100000 in
theorem lb_143 (hC : SndC g HB l MM call) : Snd g HB l call cL_law 7 yL_law.cls yL_law.name 143 (lf (q_load isR 0 144)) := lf_ok (p_aload_n (by decide +kernel : decode cL_law 143 = .ok (.aload_n 0, 1)) rfl rfl)
set_option maxRecDepth 100000 in
theorem lb_144 (hC : SndC g HB l MM call) : Snd g HB l call cL_law 7 yL_law.cls yL_law.name 144 (lf (q_load isI 4 146)) := lf_ok (p_iload (by decide +kernel : decode cL_law 144 = .ok (.iload 4, 2)) rfl)
set_option maxRecDepth 100000 in
theorem lb_146 (hC : SndC g HB l MM call) : Snd g HB l call cL_law 7 yL_law.cls yL_law.name 146 (lf (q_push (.inl 1) 147)) := lf_ok (p_iconst (by decide +kernel : decode cL_law 146 = .ok (.iconst 1, 1)) (by decide +kernel) rfl)
set_option maxRecDepth 100000 in
theorem lb_147 (hC : SndC g HB l MM call) : Snd g HB l call cL_law 7 yL_law.cls yL_law.name 147 (lf (q_bin (iop2 (fun x y => x + y)) 148)) := lf_ok (p_iadd (by decide +kernel : decode cL_law 147 = .ok (.iadd, 1)) rfl)
set_option maxRecDepth 100000 in
theorem lb_148 (hC : SndC g HB l MM call) (hL : g.2.1 91 = L0) (hsc : ∀ j, j < L0 → cV g (sc j) = .int (nI (g.2.1 (2000 + j)))) : Snd g HB l call cL_law 7 yL_law.cls yL_law.name 148 (s_sld L0 sc 149) := m_sld hL hsc (by decide +kernel : decode cL_law 148 = .ok (.iaload, 1)) rfl
set_option maxRecDepth 100000 in
theorem lb_149 (hC : SndC g HB l MM call) : Snd g HB l call cL_law 7 yL_law.cls yL_law.name 149 (lf (q_load isR 0 150)) := lf_ok (p_aload_n (by decide +kernel : decode cL_law 149 = .ok (.aload_n 0, 1)) rfl rfl)
set_option maxRecDepth 100000 in
theorem lb_150 (hC : SndC g HB l MM call) : Snd g HB l call cL_law 7 yL_law.cls yL_law.name 150 (lf (q_load isI 4 152)) := lf_ok (p_iload (by decide +kernel : decode cL_law 150 = .ok (.iload 4, 2)) rfl)
set_option maxRecDepth 100000 in
theorem lb_152 (hC : SndC g HB l MM call) : Snd g HB l call cL_law 7 yL_law.cls yL_law.name 152 (lf (q_push (.inl 2) 153)) := lf_ok (p_iconst (by decide +kernel : decode cL_law 152 = .ok (.iconst 2, 1)) (by decide +kernel) rfl)
set_option maxRecDepth 100000 in
theorem lb_153 (hC : SndC g HB l MM call) : Snd g HB l call cL_law 7 yL_law.cls yL_law.name 153 (lf (q_bin (iop2 (fun x y => x + y)) 154)) := lf_ok (p_iadd (by decide +kernel : decode cL_law 153 = .ok (.iadd, 1)) rfl)
set_option maxRecDepth 100000 in
theorem lb_154 (hC : SndC g HB l MM call) (hL : g.2.1 91 = L0) (hsc : ∀ j, j < L0 → cV g (sc j) = .int (nI (g.2.1 (2000 + j)))) : Snd g HB l call cL_law 7 yL_law.cls yL_law.name 154 (s_sld L0 sc 155) := m_sld hL hsc (by decide +kernel : decode cL_law 154 = .ok (.iaload, 1)) rfl
set_option maxRecDepth 100000 in
theorem lb_155 (hC : SndC g HB l MM call) : Snd g HB l call cL_law 7 yL_law.cls yL_law.name 155 (lf (q_load isR 0 156)) := lf_ok (p_aload_n (by decide +kernel : decode cL_law 155 = .ok (.aload_n 0, 1)) rfl rfl)
set_option maxRecDepth 100000 in
theorem lb_156 (hC : SndC g HB l MM call) : Snd g HB l call cL_law 7 yL_law.cls yL_law.name 156 (lf (q_load isI 4 158)) := lf_ok (p_iload (by decide +kernel : decode cL_law 156 = .ok (.iload 4, 2)) rfl)
set_option maxRecDepth 100000 in
theorem lb_158 (hC : SndC g HB l MM call) : Snd g HB l call cL_law 7 yL_law.cls yL_law.name 158 (lf (q_push (.inl 3) 159)) := lf_ok (p_iconst (by decide +kernel : decode cL_law 158 = .ok (.iconst 3, 1)) (by decide +kernel) rfl)
set_option maxRecDepth 100000 in
theorem lb_159 (hC : SndC g HB l MM call) : Snd g HB l call cL_law 7 yL_law.cls yL_law.name 159 (lf (q_bin (iop2 (fun x y => x + y)) 160)) := lf_ok (p_iadd (by decide +kernel : decode cL_law 159 = .ok (.iadd, 1)) rfl)
set_option maxRecDepth 100000 in
theorem lb_160 (hC : SndC g HB l MM call) (hL : g.2.1 91 = L0) (hsc : ∀ j, j < L0 → cV g (sc j) = .int (nI (g.2.1 (2000 + j)))) : Snd g HB l call cL_law 7 yL_law.cls yL_law.name 160 (s_sld L0 sc 161) := m_sld hL hsc (by decide +kernel : decode cL_law 160 = .ok (.iaload, 1)) rfl
set_option maxRecDepth 100000 in
theorem lb_161 (hC : SndC g HB l MM call) : Snd g HB l call cL_law 7 yL_law.cls yL_law.name 161 (lf (q_load isR 0 162)) := lf_ok (p_aload_n (by decide +kernel : decode cL_law 161 = .ok (.aload_n 0, 1)) rfl rfl)
set_option maxRecDepth 100000 in
theorem lb_162 (hC : SndC g HB l MM call) : Snd g HB l call cL_law 7 yL_law.cls yL_law.name 162 (lf (q_load isI 4 164)) := lf_ok (p_iload (by decide +kernel : decode cL_law 162 = .ok (.iload 4, 2)) rfl)
set_option maxRecDepth 100000 in
theorem lb_164 (hC : SndC g HB l MM call) : Snd g HB l call cL_law 7 yL_law.cls yL_law.name 164 (lf (q_push (.inl 4) 165)) := lf_ok (p_iconst (by decide +kernel : decode cL_law 164 = .ok (.iconst 4, 1)) (by decide +kernel) rfl)
set_option maxRecDepth 100000 in
theorem lb_165 (hC : SndC g HB l MM call) : Snd g HB l call cL_law 7 yL_law.cls yL_law.name 165 (lf (q_bin (iop2 (fun x y => x + y)) 166)) := lf_ok (p_iadd (by decide +kernel : decode cL_law 165 = .ok (.iadd, 1)) rfl)
set_option maxRecDepth 100000 in
theorem lb_166 (hC : SndC g HB l MM call) (hL : g.2.1 91 = L0) (hsc : ∀ j, j < L0 → cV g (sc j) = .int (nI (g.2.1 (2000 + j)))) : Snd g HB l call cL_law 7 yL_law.cls yL_law.name 166 (s_sld L0 sc 167) := m_sld hL hsc (by decide +kernel : decode cL_law 166 = .ok (.iaload, 1)) rfl
set_option maxRecDepth 100000 in
theorem lb_167 (hC : SndC g HB l MM call) : Snd g HB l call cL_law 7 yL_law.cls yL_law.name 167 (lf (q_load isR 0 168)) := lf_ok (p_aload_n (by decide +kernel : decode cL_law 167 = .ok (.aload_n 0, 1)) rfl rfl)
set_option maxRecDepth 100000 in
theorem lb_168 (hC : SndC g HB l MM call) : Snd g HB l call cL_law 7 yL_law.cls yL_law.name 168 (lf (q_load isI 4 170)) := lf_ok (p_iload (by decide +kernel : decode cL_law 168 = .ok (.iload 4, 2)) rfl)
set_option maxRecDepth 100000 in
theorem lb_170 (hC : SndC g HB l MM call) : Snd g HB l call cL_law 7 yL_law.cls yL_law.name 170 (lf (q_push (.inl 5) 171)) := lf_ok (p_iconst (by decide +kernel : decode cL_law 170 = .ok (.iconst 5, 1)) (by decide +kernel) rfl)
set_option maxRecDepth 100000 in
theorem lb_171 (hC : SndC g HB l MM call) : Snd g HB l call cL_law 7 yL_law.cls yL_law.name 171 (lf (q_bin (iop2 (fun x y => x + y)) 172)) := lf_ok (p_iadd (by decide +kernel : decode cL_law 171 = .ok (.iadd, 1)) rfl)
set_option maxRecDepth 100000 in
theorem lb_172 (hC : SndC g HB l MM call) (hL : g.2.1 91 = L0) (hsc : ∀ j, j < L0 → cV g (sc j) = .int (nI (g.2.1 (2000 + j)))) : Snd g HB l call cL_law 7 yL_law.cls yL_law.name 172 (s_sld L0 sc 173) := m_sld hL hsc (by decide +kernel : decode cL_law 172 = .ok (.iaload, 1)) rfl
set_option maxRecDepth 100000 in
theorem lb_173 (hC : SndC g HB l MM call) : Snd g HB l call cL_law 7 yL_law.cls yL_law.name 173 (s_cV 10 96 5 27 176) := c_V (C := RX12) (T := TX12) (N := 70) (ci := 10) rfl hC (M := MM) (id := 96) (d := D_96) rfl mok_96 rfl rfl (tin 7 136 (by decide +kernel) rfl) (tin 7 137 (by decide +kernel) rfl) (tin 7 138 (by decide +kernel) rfl) (tin 1 12 (by decide +kernel) rfl) (by decide +kernel : decode cL_law 173 = .ok (.invokevirtual 38, 3)) rfl
set_option maxRecDepth 100000 in
theorem lb_176 (hC : SndC g HB l MM call) : Snd g HB l call cL_law 7 yL_law.cls yL_law.name 176 (lf (q_goto 618)) := lf_ok (p_goto (by decide +kernel : decode cL_law 176 = .ok (.goto 442, 3)) (by decide))
set_option maxRecDepth 100000 in
theorem lb_179 (hC : SndC g HB l MM call) : Snd g HB l call cL_law 7 yL_law.cls yL_law.name 179 (lf (q_load isR 1 180)) := lf_ok (p_aload_n (by decide +kernel : decode cL_law 179 = .ok (.aload_n 1, 1)) rfl rfl)
set_option maxRecDepth 100000 in
theorem lb_180 (hC : SndC g HB l MM call) : Snd g HB l call cL_law 7 yL_law.cls yL_law.name 180 (lf (q_load isR 0 181)) := lf_ok (p_aload_n (by decide +kernel : decode cL_law 180 = .ok (.aload_n 0, 1)) rfl rfl)
set_option maxRecDepth 100000 in
theorem lb_181 (hC : SndC g HB l MM call) : Snd g HB l call cL_law 7 yL_law.cls yL_law.name 181 (lf (q_load isI 4 183)) := lf_ok (p_iload (by decide +kernel : decode cL_law 181 = .ok (.iload 4, 2)) rfl)
set_option maxRecDepth 100000 in
theorem lb_183 (hC : SndC g HB l MM call) : Snd g HB l call cL_law 7 yL_law.cls yL_law.name 183 (lf (q_push (.inl 1) 184)) := lf_ok (p_iconst (by decide +kernel : decode cL_law 183 = .ok (.iconst 1, 1)) (by decide +kernel) rfl)
set_option maxRecDepth 100000 in
theorem lb_184 (hC : SndC g HB l MM call) : Snd g HB l call cL_law 7 yL_law.cls yL_law.name 184 (lf (q_bin (iop2 (fun x y => x + y)) 185)) := lf_ok (p_iadd (by decide +kernel : decode cL_law 184 = .ok (.iadd, 1)) rfl)
set_option maxRecDepth 100000 in
theorem lb_185 (hC : SndC g HB l MM call) (hL : g.2.1 91 = L0) (hsc : ∀ j, j < L0 → cV g (sc j) = .int (nI (g.2.1 (2000 + j)))) : Snd g HB l call cL_law 7 yL_law.cls yL_law.name 185 (s_sld L0 sc 186) := m_sld hL hsc (by decide +kernel : decode cL_law 185 = .ok (.iaload, 1)) rfl
set_option maxRecDepth 100000 in
theorem lb_186 (hC : SndC g HB l MM call) : Snd g HB l call cL_law 7 yL_law.cls yL_law.name 186 (s_cV 9 17 1 21 189) := c_V (C := RX11) (T := TX11) (N := 17) (ci := 9) rfl hC (M := MM) (id := 17) (d := D_17) rfl mok_17 rfl rfl (tin 2 151 (by decide +kernel) rfl) (tin 2 152 (by decide +kernel) rfl) (tin 2 153 (by decide +kernel) rfl) (tin 1 1 (by decide +kernel) rfl) (by decide +kernel : decode cL_law 186 = .ok (.invokevirtual 39, 3)) rfl
set_option maxRecDepth 100000 in
theorem lb_189 (hC : SndC g HB l MM call) : Snd g HB l call cL_law 7 yL_law.cls yL_law.name 189 (lf (q_load isR 2 190)) := lf_ok (p_aload_n (by decide +kernel : decode cL_law 189 = .ok (.aload_n 2, 1)) rfl rfl)
set_option maxRecDepth 100000 in
theorem lb_190 (hC : SndC g HB l MM call) : Snd g HB l call cL_law 7 yL_law.cls yL_law.name 190 (lf (q_load isR 0 191)) := lf_ok (p_aload_n (by decide +kernel : decode cL_law 190 = .ok (.aload_n 0, 1)) rfl rfl)
set_option maxRecDepth 100000 in
theorem lb_191 (hC : SndC g HB l MM call) : Snd g HB l call cL_law 7 yL_law.cls yL_law.name 191 (lf (q_load isI 4 193)) := lf_ok (p_iload (by decide +kernel : decode cL_law 191 = .ok (.iload 4, 2)) rfl)
set_option maxRecDepth 100000 in
theorem lb_193 (hC : SndC g HB l MM call) : Snd g HB l call cL_law 7 yL_law.cls yL_law.name 193 (lf (q_push (.inl 1) 194)) := lf_ok (p_iconst (by decide +kernel : decode cL_law 193 = .ok (.iconst 1, 1)) (by decide +kernel) rfl)
set_option maxRecDepth 100000 in
theorem lb_194 (hC : SndC g HB l MM call) : Snd g HB l call cL_law 7 yL_law.cls yL_law.name 194 (lf (q_bin (iop2 (fun x y => x + y)) 195)) := lf_ok (p_iadd (by decide +kernel : decode cL_law 194 = .ok (.iadd, 1)) rfl)
set_option maxRecDepth 100000 in
theorem lb_195 (hC : SndC g HB l MM call) (hL : g.2.1 91 = L0) (hsc : ∀ j, j < L0 → cV g (sc j) = .int (nI (g.2.1 (2000 + j)))) : Snd g HB l call cL_law 7 yL_law.cls yL_law.name 195 (s_sld L0 sc 196) := m_sld hL hsc (by decide +kernel : decode cL_law 195 = .ok (.iaload, 1)) rfl
set_option maxRecDepth 100000 in
theorem lb_196 (hC : SndC g HB l MM call) : Snd g HB l call cL_law 7 yL_law.cls yL_law.name 196 (s_cV 10 97 1 22 199) := c_V (C := RX12) (T := TX12) (N := 70) (ci := 10) rfl hC (M := MM) (id := 97) (d := D_97) rfl mok_97 rfl rfl (tin 7 140 (by decide +kernel) rfl) (tin 7 141 (by decide +kernel) rfl) (tin 7 142 (by decide +kernel) rfl) (tin 1 12 (by decide +kernel) rfl) (by decide +kernel : decode cL_law 196 = .ok (.invokevirtual 43, 3)) rfl
set_option maxRecDepth 100000 in
theorem lb_199 (hC : SndC g HB l MM call) : Snd g HB l call cL_law 7 yL_law.cls yL_law.name 199 (s_br2 0 618 202) := b_ieq (by decide +kernel : decode cL_law 199 = .ok (.if_icmp .eq 419, 3)) (by decide) rfl
set_option maxRecDepth 100000 in
theorem lb_204 (hC : SndC g HB l MM call) : Snd g HB l call cL_law 7 yL_law.cls yL_law.name 204 (lf (q_load isR 1 205)) := lf_ok (p_aload_n (by decide +kernel : decode cL_law 204 = .ok (.aload_n 1, 1)) rfl rfl)
set_option maxRecDepth 100000 in
theorem lb_205 (hC : SndC g HB l MM call) : Snd g HB l call cL_law 7 yL_law.cls yL_law.name 205 (lf (q_load isR 3 206)) := lf_ok (p_aload_n (by decide +kernel : decode cL_law 205 = .ok (.aload_n 3, 1)) rfl rfl)
set_option maxRecDepth 100000 in
theorem lb_209 (hC : SndC g HB l MM call) : Snd g HB l call cL_law 7 yL_law.cls yL_law.name 209 (lf (q_store isI up1 0 5 7 211)) := lf_ok (p_istore (by decide +kernel : decode cL_law 209 = .ok (.istore 5, 2)) rfl)
set_option maxRecDepth 100000 in
theorem lb_211 (hC : SndC g HB l MM call) : Snd g HB l call cL_law 7 yL_law.cls yL_law.name 211 (lf (q_load isR 2 212)) := lf_ok (p_aload_n (by decide +kernel : decode cL_law 211 = .ok (.aload_n 2, 1)) rfl rfl)
set_option maxRecDepth 100000 in
theorem lb_212 (hC : SndC g HB l MM call) : Snd g HB l call cL_law 7 yL_law.cls yL_law.name 212 (s_cV 10 98 0 22 215) := c_V (C := RX12) (T := TX12) (N := 70) (ci := 10) rfl hC (M := MM) (id := 98) (d := D_98) rfl mok_98 rfl rfl (tin 7 144 (by decide +kernel) rfl) (tin 7 145 (by decide +kernel) rfl) (tin 7 146 (by decide +kernel) rfl) (tin 1 12 (by decide +kernel) rfl) (by decide +kernel : decode cL_law 212 = .ok (.invokevirtual 49, 3)) rfl
set_option maxRecDepth 100000 in
theorem lb_215 (hC : SndC g HB l MM call) : Snd g HB l call cL_law 7 yL_law.cls yL_law.name 215 (lf (q_store isI up1 0 6 7 217)) := lf_ok (p_istore (by decide +kernel : decode cL_law 215 = .ok (.istore 6, 2)) rfl)
set_option maxRecDepth 100000 in
theorem lb_217 (hC : SndC g HB l MM call) : Snd g HB l call cL_law 7 yL_law.cls yL_law.name 217 (lf (q_load isR 2 218)) := lf_ok (p_aload_n (by decide +kernel : decode cL_law 217 = .ok (.aload_n 2, 1)) rfl rfl)
set_option maxRecDepth 100000 in
theorem lb_218 (hC : SndC g HB l MM call) : Snd g HB l call cL_law 7 yL_law.cls yL_law.name 218 (s_cV 10 114 0 20 221) := c_V (C := RX12) (T := TX12) (N := 70) (ci := 10) rfl hC (M := MM) (id := 114) (d := D_114) rfl mok_114 rfl rfl (tin 7 132 (by decide +kernel) rfl) (tin 7 133 (by decide +kernel) rfl) (tin 7 134 (by decide +kernel) rfl) (tin 1 12 (by decide +kernel) rfl) (by decide +kernel : decode cL_law 218 = .ok (.invokevirtual 50, 3)) rfl
set_option maxRecDepth 100000 in
theorem lb_221 (hC : SndC g HB l MM call) : Snd g HB l call cL_law 7 yL_law.cls yL_law.name 221 (lf (q_load isI 5 223)) := lf_ok (p_iload (by decide +kernel : decode cL_law 221 = .ok (.iload 5, 2)) rfl)
set_option maxRecDepth 100000 in
theorem lb_223 (hC : SndC g HB l MM call) : Snd g HB l call cL_law 7 yL_law.cls yL_law.name 223 (s_br2 0 228 226) := b_ieq (by decide +kernel : decode cL_law 223 = .ok (.if_icmp .eq 5, 3)) (by decide) rfl
set_option maxRecDepth 100000 in
theorem lb_228 (hC : SndC g HB l MM call) : Snd g HB l call cL_law 7 yL_law.cls yL_law.name 228 (lf (q_load isI 5 230)) := lf_ok (p_iload (by decide +kernel : decode cL_law 228 = .ok (.iload 5, 2)) rfl)
set_option maxRecDepth 100000 in
theorem lb_230 (hC : SndC g HB l MM call) : Snd g HB l call cL_law 7 yL_law.cls yL_law.name 230 (s_br1 1 245 233) := b_ne (by decide +kernel : decode cL_law 230 = .ok (.ifCond .ne 15, 3)) (by decide) rfl
set_option maxRecDepth 100000 in
theorem lb_233 (hC : SndC g HB l MM call) : Snd g HB l call cL_law 7 yL_law.cls yL_law.name 233 (lf (q_load isR 3 234)) := lf_ok (p_aload_n (by decide +kernel : decode cL_law 233 = .ok (.aload_n 3, 1)) rfl rfl)
set_option maxRecDepth 100000 in
theorem lb_234 (hC : SndC g HB l MM call) : Snd g HB l call cL_law 7 yL_law.cls yL_law.name 234 (lf (q_push (.inl 0) 235)) := lf_ok (p_iconst (by decide +kernel : decode cL_law 234 = .ok (.iconst 0, 1)) (by decide +kernel) rfl)
set_option maxRecDepth 100000 in
theorem lb_235 (hC : SndC g HB l MM call) : Snd g HB l call cL_law 7 yL_law.cls yL_law.name 235 (s_ald (fun t => Nat.beq t 3) isL (.inr (.inl 0)) 236) := h_lald (by decide +kernel : decode cL_law 235 = .ok (.laload, 1)) rfl
set_option maxRecDepth 100000 in
theorem lb_236 (hC : SndC g HB l MM call) : Snd g HB l call cL_law 7 yL_law.cls yL_law.name 236 (lf (q_load isI 6 238)) := lf_ok (p_iload (by decide +kernel : decode cL_law 236 = .ok (.iload 6, 2)) rfl)
set_option maxRecDepth 100000 in
theorem lb_238 (hC : SndC g HB l MM call) : Snd g HB l call cL_law 7 yL_law.cls yL_law.name 238 (lf (q_un f_i2l 239)) := lf_ok (p_i2l (by decide +kernel : decode cL_law 238 = .ok (.i2l, 1)) rfl)
set_option maxRecDepth 100000 in
theorem lb_239 (hC : SndC g HB l MM call) : Snd g HB l call cL_law 7 yL_law.cls yL_law.name 239 (lf (q_bin f_lcmp 240)) := lf_ok (p_lcmp (by decide +kernel : decode cL_law 239 = .ok (.lcmp, 1)) rfl)
set_option maxRecDepth 100000 in
theorem lb_240 (hC : SndC g HB l MM call) : Snd g HB l call cL_law 7 yL_law.cls yL_law.name 240 (s_br1 0 245 243) := b_eq (by decide +kernel : decode cL_law 240 = .ok (.ifCond .eq 5, 3)) (by decide) rfl
set_option maxRecDepth 100000 in
theorem lb_245 (hC : SndC g HB l MM call) : Snd g HB l call cL_law 7 yL_law.cls yL_law.name 245 (lf (q_goto 618)) := lf_ok (p_goto (by decide +kernel : decode cL_law 245 = .ok (.goto 373, 3)) (by decide))
set_option maxRecDepth 100000 in
theorem lb_248 (hC : SndC g HB l MM call) : Snd g HB l call cL_law 7 yL_law.cls yL_law.name 248 (lf (q_load isR 1 249)) := lf_ok (p_aload_n (by decide +kernel : decode cL_law 248 = .ok (.aload_n 1, 1)) rfl rfl)
set_option maxRecDepth 100000 in
theorem lb_249 (hC : SndC g HB l MM call) : Snd g HB l call cL_law 7 yL_law.cls yL_law.name 249 (lf (q_load isR 0 250)) := lf_ok (p_aload_n (by decide +kernel : decode cL_law 249 = .ok (.aload_n 0, 1)) rfl rfl)
set_option maxRecDepth 100000 in
theorem lb_250 (hC : SndC g HB l MM call) : Snd g HB l call cL_law 7 yL_law.cls yL_law.name 250 (lf (q_load isI 4 252)) := lf_ok (p_iload (by decide +kernel : decode cL_law 250 = .ok (.iload 4, 2)) rfl)
set_option maxRecDepth 100000 in
theorem lb_252 (hC : SndC g HB l MM call) : Snd g HB l call cL_law 7 yL_law.cls yL_law.name 252 (lf (q_push (.inl 1) 253)) := lf_ok (p_iconst (by decide +kernel : decode cL_law 252 = .ok (.iconst 1, 1)) (by decide +kernel) rfl)
set_option maxRecDepth 100000 in
theorem lb_253 (hC : SndC g HB l MM call) : Snd g HB l call cL_law 7 yL_law.cls yL_law.name 253 (lf (q_bin (iop2 (fun x y => x + y)) 254)) := lf_ok (p_iadd (by decide +kernel : decode cL_law 253 = .ok (.iadd, 1)) rfl)
set_option maxRecDepth 100000 in
theorem lb_254 (hC : SndC g HB l MM call) (hL : g.2.1 91 = L0) (hsc : ∀ j, j < L0 → cV g (sc j) = .int (nI (g.2.1 (2000 + j)))) : Snd g HB l call cL_law 7 yL_law.cls yL_law.name 254 (s_sld L0 sc 255) := m_sld hL hsc (by decide +kernel : decode cL_law 254 = .ok (.iaload, 1)) rfl
set_option maxRecDepth 100000 in
theorem lb_284 (hC : SndC g HB l MM call) : Snd g HB l call cL_law 7 yL_law.cls yL_law.name 284 (lf (q_load isR 1 285)) := lf_ok (p_aload_n (by decide +kernel : decode cL_law 284 = .ok (.aload_n 1, 1)) rfl rfl)
set_option maxRecDepth 100000 in
theorem lb_285 (hC : SndC g HB l MM call) : Snd g HB l call cL_law 7 yL_law.cls yL_law.name 285 (lf (q_load isR 0 286)) := lf_ok (p_aload_n (by decide +kernel : decode cL_law 285 = .ok (.aload_n 0, 1)) rfl rfl)
set_option maxRecDepth 100000 in
theorem lb_286 (hC : SndC g HB l MM call) : Snd g HB l call cL_law 7 yL_law.cls yL_law.name 286 (lf (q_load isI 4 288)) := lf_ok (p_iload (by decide +kernel : decode cL_law 286 = .ok (.iload 4, 2)) rfl)
set_option maxRecDepth 100000 in
theorem lb_288 (hC : SndC g HB l MM call) : Snd g HB l call cL_law 7 yL_law.cls yL_law.name 288 (lf (q_push (.inl 1) 289)) := lf_ok (p_iconst (by decide +kernel : decode cL_law 288 = .ok (.iconst 1, 1)) (by decide +kernel) rfl)
set_option maxRecDepth 100000 in
theorem lb_289 (hC : SndC g HB l MM call) : Snd g HB l call cL_law 7 yL_law.cls yL_law.name 289 (lf (q_bin (iop2 (fun x y => x + y)) 290)) := lf_ok (p_iadd (by decide +kernel : decode cL_law 289 = .ok (.iadd, 1)) rfl)
set_option maxRecDepth 100000 in
theorem lb_290 (hC : SndC g HB l MM call) (hL : g.2.1 91 = L0) (hsc : ∀ j, j < L0 → cV g (sc j) = .int (nI (g.2.1 (2000 + j)))) : Snd g HB l call cL_law 7 yL_law.cls yL_law.name 290 (s_sld L0 sc 291) := m_sld hL hsc (by decide +kernel : decode cL_law 290 = .ok (.iaload, 1)) rfl
set_option maxRecDepth 100000 in
theorem lb_291 (hC : SndC g HB l MM call) : Snd g HB l call cL_law 7 yL_law.cls yL_law.name 291 (lf (q_load isR 0 292)) := lf_ok (p_aload_n (by decide +kernel : decode cL_law 291 = .ok (.aload_n 0, 1)) rfl rfl)
set_option maxRecDepth 100000 in
theorem lb_292 (hC : SndC g HB l MM call) : Snd g HB l call cL_law 7 yL_law.cls yL_law.name 292 (lf (q_load isI 4 294)) := lf_ok (p_iload (by decide +kernel : decode cL_law 292 = .ok (.iload 4, 2)) rfl)
set_option maxRecDepth 100000 in
theorem lb_294 (hC : SndC g HB l MM call) : Snd g HB l call cL_law 7 yL_law.cls yL_law.name 294 (lf (q_push (.inl 2) 295)) := lf_ok (p_iconst (by decide +kernel : decode cL_law 294 = .ok (.iconst 2, 1)) (by decide +kernel) rfl)
set_option maxRecDepth 100000 in
theorem lb_295 (hC : SndC g HB l MM call) : Snd g HB l call cL_law 7 yL_law.cls yL_law.name 295 (lf (q_bin (iop2 (fun x y => x + y)) 296)) := lf_ok (p_iadd (by decide +kernel : decode cL_law 295 = .ok (.iadd, 1)) rfl)
set_option maxRecDepth 100000 in
theorem lb_296 (hC : SndC g HB l MM call) (hL : g.2.1 91 = L0) (hsc : ∀ j, j < L0 → cV g (sc j) = .int (nI (g.2.1 (2000 + j)))) : Snd g HB l call cL_law 7 yL_law.cls yL_law.name 296 (s_sld L0 sc 297) := m_sld hL hsc (by decide +kernel : decode cL_law 296 = .ok (.iaload, 1)) rfl
set_option maxRecDepth 100000 in
theorem lb_297 (hC : SndC g HB l MM call) : Snd g HB l call cL_law 7 yL_law.cls yL_law.name 297 (s_br1 0 304 300) := b_eq (by decide +kernel : decode cL_law 297 = .ok (.ifCond .eq 7, 3)) (by decide) rfl
set_option maxRecDepth 100000 in
theorem lb_300 (hC : SndC g HB l MM call) : Snd g HB l call cL_law 7 yL_law.cls yL_law.name 300 (lf (q_push (.inl 1) 301)) := lf_ok (p_iconst (by decide +kernel : decode cL_law 300 = .ok (.iconst 1, 1)) (by decide +kernel) rfl)
set_option maxRecDepth 100000 in
theorem lb_301 (hC : SndC g HB l MM call) : Snd g HB l call cL_law 7 yL_law.cls yL_law.name 301 (lf (q_goto 305)) := lf_ok (p_goto (by decide +kernel : decode cL_law 301 = .ok (.goto 4, 3)) (by decide))
set_option maxRecDepth 100000 in
theorem lb_304 (hC : SndC g HB l MM call) : Snd g HB l call cL_law 7 yL_law.cls yL_law.name 304 (lf (q_push (.inl 0) 305)) := lf_ok (p_iconst (by decide +kernel : decode cL_law 304 = .ok (.iconst 0, 1)) (by decide +kernel) rfl)
set_option maxRecDepth 100000 in
theorem lb_305 (hC : SndC g HB l MM call) : Snd g HB l call cL_law 7 yL_law.cls yL_law.name 305 (lf (q_load isR 3 306)) := lf_ok (p_aload_n (by decide +kernel : decode cL_law 305 = .ok (.aload_n 3, 1)) rfl rfl)
set_option maxRecDepth 100000 in
theorem lb_375 (hC : SndC g HB l MM call) : Snd g HB l call cL_law 7 yL_law.cls yL_law.name 375 (lf (q_load isR 1 376)) := lf_ok (p_aload_n (by decide +kernel : decode cL_law 375 = .ok (.aload_n 1, 1)) rfl rfl)
set_option maxRecDepth 100000 in
theorem lb_376 (hC : SndC g HB l MM call) : Snd g HB l call cL_law 7 yL_law.cls yL_law.name 376 (lf (q_load isR 3 377)) := lf_ok (p_aload_n (by decide +kernel : decode cL_law 376 = .ok (.aload_n 3, 1)) rfl rfl)
set_option maxRecDepth 100000 in
theorem lb_380 (hC : SndC g HB l MM call) : Snd g HB l call cL_law 7 yL_law.cls yL_law.name 380 (lf (q_store isI up1 0 5 7 382)) := lf_ok (p_istore (by decide +kernel : decode cL_law 380 = .ok (.istore 5, 2)) rfl)
set_option maxRecDepth 100000 in
theorem lb_382 (hC : SndC g HB l MM call) : Snd g HB l call cL_law 7 yL_law.cls yL_law.name 382 (lf (q_load isR 2 383)) := lf_ok (p_aload_n (by decide +kernel : decode cL_law 382 = .ok (.aload_n 2, 1)) rfl rfl)
set_option maxRecDepth 100000 in
theorem lb_383 (hC : SndC g HB l MM call) : Snd g HB l call cL_law 7 yL_law.cls yL_law.name 383 (s_cV 10 103 0 22 386) := c_V (C := RX12) (T := TX12) (N := 70) (ci := 10) rfl hC (M := MM) (id := 103) (d := D_103) rfl mok_103 rfl rfl (tin 7 179 (by decide +kernel) rfl) (tin 7 180 (by decide +kernel) rfl) (tin 7 181 (by decide +kernel) rfl) (tin 1 12 (by decide +kernel) rfl) (by decide +kernel : decode cL_law 383 = .ok (.invokevirtual 63, 3)) rfl
set_option maxRecDepth 100000 in
theorem lb_386 (hC : SndC g HB l MM call) : Snd g HB l call cL_law 7 yL_law.cls yL_law.name 386 (lf (q_store isI up1 0 6 7 388)) := lf_ok (p_istore (by decide +kernel : decode cL_law 386 = .ok (.istore 6, 2)) rfl)
set_option maxRecDepth 100000 in
theorem lb_388 (hC : SndC g HB l MM call) : Snd g HB l call cL_law 7 yL_law.cls yL_law.name 388 (lf (q_load isR 2 389)) := lf_ok (p_aload_n (by decide +kernel : decode cL_law 388 = .ok (.aload_n 2, 1)) rfl rfl)
set_option maxRecDepth 100000 in
theorem lb_389 (hC : SndC g HB l MM call) : Snd g HB l call cL_law 7 yL_law.cls yL_law.name 389 (s_cV 10 114 0 20 392) := c_V (C := RX12) (T := TX12) (N := 70) (ci := 10) rfl hC (M := MM) (id := 114) (d := D_114) rfl mok_114 rfl rfl (tin 7 132 (by decide +kernel) rfl) (tin 7 133 (by decide +kernel) rfl) (tin 7 134 (by decide +kernel) rfl) (tin 1 12 (by decide +kernel) rfl) (by decide +kernel : decode cL_law 389 = .ok (.invokevirtual 50, 3)) rfl
set_option maxRecDepth 100000 in
theorem lb_392 (hC : SndC g HB l MM call) : Snd g HB l call cL_law 7 yL_law.cls yL_law.name 392 (lf (q_load isI 5 394)) := lf_ok (p_iload (by decide +kernel : decode cL_law 392 = .ok (.iload 5, 2)) rfl)
set_option maxRecDepth 100000 in
theorem lb_394 (hC : SndC g HB l MM call) : Snd g HB l call cL_law 7 yL_law.cls yL_law.name 394 (s_br2 0 399 397) := b_ieq (by decide +kernel : decode cL_law 394 = .ok (.if_icmp .eq 5, 3)) (by decide) rfl
set_option maxRecDepth 100000 in
theorem lb_399 (hC : SndC g HB l MM call) : Snd g HB l call cL_law 7 yL_law.cls yL_law.name 399 (lf (q_load isI 5 401)) := lf_ok (p_iload (by decide +kernel : decode cL_law 399 = .ok (.iload 5, 2)) rfl)
set_option maxRecDepth 100000 in
theorem lb_401 (hC : SndC g HB l MM call) : Snd g HB l call cL_law 7 yL_law.cls yL_law.name 401 (s_br1 1 416 404) := b_ne (by decide +kernel : decode cL_law 401 = .ok (.ifCond .ne 15, 3)) (by decide) rfl
set_option maxRecDepth 100000 in
theorem lb_404 (hC : SndC g HB l MM call) : Snd g HB l call cL_law 7 yL_law.cls yL_law.name 404 (lf (q_load isR 3 405)) := lf_ok (p_aload_n (by decide +kernel : decode cL_law 404 = .ok (.aload_n 3, 1)) rfl rfl)
set_option maxRecDepth 100000 in
theorem lb_405 (hC : SndC g HB l MM call) : Snd g HB l call cL_law 7 yL_law.cls yL_law.name 405 (lf (q_push (.inl 0) 406)) := lf_ok (p_iconst (by decide +kernel : decode cL_law 405 = .ok (.iconst 0, 1)) (by decide +kernel) rfl)
set_option maxRecDepth 100000 in
theorem lb_406 (hC : SndC g HB l MM call) : Snd g HB l call cL_law 7 yL_law.cls yL_law.name 406 (s_ald (fun t => Nat.beq t 3) isL (.inr (.inl 0)) 407) := h_lald (by decide +kernel : decode cL_law 406 = .ok (.laload, 1)) rfl
set_option maxRecDepth 100000 in
theorem lb_407 (hC : SndC g HB l MM call) : Snd g HB l call cL_law 7 yL_law.cls yL_law.name 407 (lf (q_load isI 6 409)) := lf_ok (p_iload (by decide +kernel : decode cL_law 407 = .ok (.iload 6, 2)) rfl)
set_option maxRecDepth 100000 in
theorem lb_409 (hC : SndC g HB l MM call) : Snd g HB l call cL_law 7 yL_law.cls yL_law.name 409 (lf (q_un f_i2l 410)) := lf_ok (p_i2l (by decide +kernel : decode cL_law 409 = .ok (.i2l, 1)) rfl)
set_option maxRecDepth 100000 in
theorem lb_410 (hC : SndC g HB l MM call) : Snd g HB l call cL_law 7 yL_law.cls yL_law.name 410 (lf (q_bin f_lcmp 411)) := lf_ok (p_lcmp (by decide +kernel : decode cL_law 410 = .ok (.lcmp, 1)) rfl)
set_option maxRecDepth 100000 in
theorem lb_411 (hC : SndC g HB l MM call) : Snd g HB l call cL_law 7 yL_law.cls yL_law.name 411 (s_br1 0 416 414) := b_eq (by decide +kernel : decode cL_law 411 = .ok (.ifCond .eq 5, 3)) (by decide) rfl
set_option maxRecDepth 100000 in
theorem lb_416 (hC : SndC g HB l MM call) : Snd g HB l call cL_law 7 yL_law.cls yL_law.name 416 (lf (q_goto 618)) := lf_ok (p_goto (by decide +kernel : decode cL_law 416 = .ok (.goto 202, 3)) (by decide))
set_option maxRecDepth 100000 in
theorem lb_419 (hC : SndC g HB l MM call) : Snd g HB l call cL_law 7 yL_law.cls yL_law.name 419 (lf (q_load isR 1 420)) := lf_ok (p_aload_n (by decide +kernel : decode cL_law 419 = .ok (.aload_n 1, 1)) rfl rfl)
set_option maxRecDepth 100000 in
theorem lb_420 (hC : SndC g HB l MM call) : Snd g HB l call cL_law 7 yL_law.cls yL_law.name 420 (s_cV 9 84 0 20 423) := c_V (C := RX11) (T := TX11) (N := 17) (ci := 9) rfl hC (M := MM) (id := 84) (d := D_84) rfl mok_84 rfl rfl (tin 2 167 (by decide +kernel) rfl) (tin 2 168 (by decide +kernel) rfl) (tin 2 169 (by decide +kernel) rfl) (tin 1 1 (by decide +kernel) rfl) (by decide +kernel : decode cL_law 420 = .ok (.invokevirtual 64, 3)) rfl
set_option maxRecDepth 100000 in
theorem lb_423 (hC : SndC g HB l MM call) : Snd g HB l call cL_law 7 yL_law.cls yL_law.name 423 (lf (q_load isR 2 424)) := lf_ok (p_aload_n (by decide +kernel : decode cL_law 423 = .ok (.aload_n 2, 1)) rfl rfl)
set_option maxRecDepth 100000 in
theorem lb_424 (hC : SndC g HB l MM call) : Snd g HB l call cL_law 7 yL_law.cls yL_law.name 424 (s_cV 10 107 0 20 427) := c_V (C := RX12) (T := TX12) (N := 70) (ci := 10) rfl hC (M := MM) (id := 107) (d := D_107) rfl mok_107 rfl rfl (tin 8 235 (by decide +kernel) rfl) (tin 8 236 (by decide +kernel) rfl) (tin 8 237 (by decide +kernel) rfl) (tin 1 12 (by decide +kernel) rfl) (by decide +kernel : decode cL_law 424 = .ok (.invokevirtual 67, 3)) rfl
set_option maxRecDepth 100000 in
theorem lb_427 (hC : SndC g HB l MM call) : Snd g HB l call cL_law 7 yL_law.cls yL_law.name 427 (s_br2 0 618 430) := b_ieq (by decide +kernel : decode cL_law 427 = .ok (.if_icmp .eq 191, 3)) (by decide) rfl
set_option maxRecDepth 100000 in
theorem lb_432 (hC : SndC g HB l MM call) : Snd g HB l call cL_law 7 yL_law.cls yL_law.name 432 (lf (q_load isR 1 433)) := lf_ok (p_aload_n (by decide +kernel : decode cL_law 432 = .ok (.aload_n 1, 1)) rfl rfl)
set_option maxRecDepth 100000 in
theorem lb_433 (hC : SndC g HB l MM call) : Snd g HB l call cL_law 7 yL_law.cls yL_law.name 433 (lf (q_load isR 0 434)) := lf_ok (p_aload_n (by decide +kernel : decode cL_law 433 = .ok (.aload_n 0, 1)) rfl rfl)
set_option maxRecDepth 100000 in
theorem lb_434 (hC : SndC g HB l MM call) : Snd g HB l call cL_law 7 yL_law.cls yL_law.name 434 (lf (q_load isI 4 436)) := lf_ok (p_iload (by decide +kernel : decode cL_law 434 = .ok (.iload 4, 2)) rfl)
set_option maxRecDepth 100000 in
theorem lb_436 (hC : SndC g HB l MM call) : Snd g HB l call cL_law 7 yL_law.cls yL_law.name 436 (lf (q_push (.inl 1) 437)) := lf_ok (p_iconst (by decide +kernel : decode cL_law 436 = .ok (.iconst 1, 1)) (by decide +kernel) rfl)
set_option maxRecDepth 100000 in
theorem lb_437 (hC : SndC g HB l MM call) : Snd g HB l call cL_law 7 yL_law.cls yL_law.name 437 (lf (q_bin (iop2 (fun x y => x + y)) 438)) := lf_ok (p_iadd (by decide +kernel : decode cL_law 437 = .ok (.iadd, 1)) rfl)
set_option maxRecDepth 100000 in
theorem lb_438 (hC : SndC g HB l MM call) (hL : g.2.1 91 = L0) (hsc : ∀ j, j < L0 → cV g (sc j) = .int (nI (g.2.1 (2000 + j)))) : Snd g HB l call cL_law 7 yL_law.cls yL_law.name 438 (s_sld L0 sc 439) := m_sld hL hsc (by decide +kernel : decode cL_law 438 = .ok (.iaload, 1)) rfl
set_option maxRecDepth 100000 in
theorem lb_439 (hC : SndC g HB l MM call) : Snd g HB l call cL_law 7 yL_law.cls yL_law.name 439 (s_cV 9 85 1 21 442) := c_V (C := RX11) (T := TX11) (N := 17) (ci := 9) rfl hC (M := MM) (id := 85) (d := D_85) rfl mok_85 rfl rfl (tin 2 171 (by decide +kernel) rfl) (tin 2 172 (by decide +kernel) rfl) (tin 2 173 (by decide +kernel) rfl) (tin 1 1 (by decide +kernel) rfl) (by decide +kernel : decode cL_law 439 = .ok (.invokevirtual 68, 3)) rfl
set_option maxRecDepth 100000 in
theorem lb_442 (hC : SndC g HB l MM call) : Snd g HB l call cL_law 7 yL_law.cls yL_law.name 442 (lf (q_load isR 2 443)) := lf_ok (p_aload_n (by decide +kernel : decode cL_law 442 = .ok (.aload_n 2, 1)) rfl rfl)
set_option maxRecDepth 100000 in
theorem lb_443 (hC : SndC g HB l MM call) : Snd g HB l call cL_law 7 yL_law.cls yL_law.name 443 (lf (q_load isR 0 444)) := lf_ok (p_aload_n (by decide +kernel : decode cL_law 443 = .ok (.aload_n 0, 1)) rfl rfl)
set_option maxRecDepth 100000 in
theorem lb_444 (hC : SndC g HB l MM call) : Snd g HB l call cL_law 7 yL_law.cls yL_law.name 444 (lf (q_load isI 4 446)) := lf_ok (p_iload (by decide +kernel : decode cL_law 444 = .ok (.iload 4, 2)) rfl)
set_option maxRecDepth 100000 in
theorem lb_446 (hC : SndC g HB l MM call) : Snd g HB l call cL_law 7 yL_law.cls yL_law.name 446 (lf (q_push (.inl 1) 447)) := lf_ok (p_iconst (by decide +kernel : decode cL_law 446 = .ok (.iconst 1, 1)) (by decide +kernel) rfl)
set_option maxRecDepth 100000 in
theorem lb_447 (hC : SndC g HB l MM call) : Snd g HB l call cL_law 7 yL_law.cls yL_law.name 447 (lf (q_bin (iop2 (fun x y => x + y)) 448)) := lf_ok (p_iadd (by decide +kernel : decode cL_law 447 = .ok (.iadd, 1)) rfl)
set_option maxRecDepth 100000 in
theorem lb_448 (hC : SndC g HB l MM call) (hL : g.2.1 91 = L0) (hsc : ∀ j, j < L0 → cV g (sc j) = .int (nI (g.2.1 (2000 + j)))) : Snd g HB l call cL_law 7 yL_law.cls yL_law.name 448 (s_sld L0 sc 449) := m_sld hL hsc (by decide +kernel : decode cL_law 448 = .ok (.iaload, 1)) rfl
set_option maxRecDepth 100000 in
theorem lb_449 (hC : SndC g HB l MM call) : Snd g HB l call cL_law 7 yL_law.cls yL_law.name 449 (s_cV 10 108 1 21 452) := c_V (C := RX12) (T := TX12) (N := 70) (ci := 10) rfl hC (M := MM) (id := 108) (d := D_108) rfl mok_108 rfl rfl (tin 8 239 (by decide +kernel) rfl) (tin 9 0 (by decide +kernel) rfl) (tin 9 1 (by decide +kernel) rfl) (tin 1 12 (by decide +kernel) rfl) (by decide +kernel : decode cL_law 449 = .ok (.invokevirtual 71, 3)) rfl
set_option maxRecDepth 100000 in
theorem lb_452 (hC : SndC g HB l MM call) : Snd g HB l call cL_law 7 yL_law.cls yL_law.name 452 (s_br2 0 618 455) := b_ieq (by decide +kernel : decode cL_law 452 = .ok (.if_icmp .eq 166, 3)) (by decide) rfl
set_option maxRecDepth 100000 in
theorem lb_457 (hC : SndC g HB l MM call) : Snd g HB l call cL_law 7 yL_law.cls yL_law.name 457 (lf (q_load isR 1 458)) := lf_ok (p_aload_n (by decide +kernel : decode cL_law 457 = .ok (.aload_n 1, 1)) rfl rfl)
set_option maxRecDepth 100000 in
theorem lb_458 (hC : SndC g HB l MM call) : Snd g HB l call cL_law 7 yL_law.cls yL_law.name 458 (s_cV 9 87 0 22 461) := c_V (C := RX11) (T := TX11) (N := 17) (ci := 9) rfl hC (M := MM) (id := 87) (d := D_87) rfl mok_87 rfl rfl (tin 2 175 (by decide +kernel) rfl) (tin 2 176 (by decide +kernel) rfl) (tin 2 177 (by decide +kernel) rfl) (tin 1 1 (by decide +kernel) rfl) (by decide +kernel : decode cL_law 458 = .ok (.invokevirtual 72, 3)) rfl
set_option maxRecDepth 100000 in
theorem lb_461 (hC : SndC g HB l MM call) : Snd g HB l call cL_law 7 yL_law.cls yL_law.name 461 (lf (q_load isR 2 462)) := lf_ok (p_aload_n (by decide +kernel : decode cL_law 461 = .ok (.aload_n 2, 1)) rfl rfl)
set_option maxRecDepth 100000 in
theorem lb_462 (hC : SndC g HB l MM call) : Snd g HB l call cL_law 7 yL_law.cls yL_law.name 462 (s_cV 10 110 0 24 465) := c_V (C := RX12) (T := TX12) (N := 70) (ci := 10) rfl hC (M := MM) (id := 110) (d := D_110) rfl mok_110 rfl rfl (tin 9 3 (by decide +kernel) rfl) (tin 9 4 (by decide +kernel) rfl) (tin 9 5 (by decide +kernel) rfl) (tin 1 12 (by decide +kernel) rfl) (by decide +kernel : decode cL_law 462 = .ok (.invokevirtual 75, 3)) rfl
set_option maxRecDepth 100000 in
theorem lb_465 (hC : SndC g HB l MM call) : Snd g HB l call cL_law 7 yL_law.cls yL_law.name 465 (s_br2 0 618 468) := b_ieq (by decide +kernel : decode cL_law 465 = .ok (.if_icmp .eq 153, 3)) (by decide) rfl
set_option maxRecDepth 100000 in
theorem lb_470 (hC : SndC g HB l MM call) : Snd g HB l call cL_law 7 yL_law.cls yL_law.name 470 (lf (q_load isR 1 471)) := lf_ok (p_aload_n (by decide +kernel : decode cL_law 470 = .ok (.aload_n 1, 1)) rfl rfl)
set_option maxRecDepth 100000 in
theorem lb_471 (hC : SndC g HB l MM call) : Snd g HB l call cL_law 7 yL_law.cls yL_law.name 471 (lf (q_load isR 0 472)) := lf_ok (p_aload_n (by decide +kernel : decode cL_law 471 = .ok (.aload_n 0, 1)) rfl rfl)
set_option maxRecDepth 100000 in
theorem lb_472 (hC : SndC g HB l MM call) : Snd g HB l call cL_law 7 yL_law.cls yL_law.name 472 (lf (q_load isI 4 474)) := lf_ok (p_iload (by decide +kernel : decode cL_law 472 = .ok (.iload 4, 2)) rfl)
set_option maxRecDepth 100000 in
theorem lb_474 (hC : SndC g HB l MM call) : Snd g HB l call cL_law 7 yL_law.cls yL_law.name 474 (lf (q_push (.inl 1) 475)) := lf_ok (p_iconst (by decide +kernel : decode cL_law 474 = .ok (.iconst 1, 1)) (by decide +kernel) rfl)
set_option maxRecDepth 100000 in
theorem lb_475 (hC : SndC g HB l MM call) : Snd g HB l call cL_law 7 yL_law.cls yL_law.name 475 (lf (q_bin (iop2 (fun x y => x + y)) 476)) := lf_ok (p_iadd (by decide +kernel : decode cL_law 475 = .ok (.iadd, 1)) rfl)
set_option maxRecDepth 100000 in
theorem lb_476 (hC : SndC g HB l MM call) (hL : g.2.1 91 = L0) (hsc : ∀ j, j < L0 → cV g (sc j) = .int (nI (g.2.1 (2000 + j)))) : Snd g HB l call cL_law 7 yL_law.cls yL_law.name 476 (s_sld L0 sc 477) := m_sld hL hsc (by decide +kernel : decode cL_law 476 = .ok (.iaload, 1)) rfl
set_option maxRecDepth 100000 in
theorem lb_477 (hC : SndC g HB l MM call) : Snd g HB l call cL_law 7 yL_law.cls yL_law.name 477 (s_cV 9 86 1 21 480) := c_V (C := RX11) (T := TX11) (N := 17) (ci := 9) rfl hC (M := MM) (id := 86) (d := D_86) rfl mok_86 rfl rfl (tin 3 8 (by decide +kernel) rfl) (tin 3 9 (by decide +kernel) rfl) (tin 3 10 (by decide +kernel) rfl) (tin 1 1 (by decide +kernel) rfl) (by decide +kernel : decode cL_law 477 = .ok (.invokevirtual 76, 3)) rfl
set_option maxRecDepth 100000 in
theorem lb_480 (hC : SndC g HB l MM call) : Snd g HB l call cL_law 7 yL_law.cls yL_law.name 480 (lf (q_load isR 2 481)) := lf_ok (p_aload_n (by decide +kernel : decode cL_law 480 = .ok (.aload_n 2, 1)) rfl rfl)
set_option maxRecDepth 100000 in
theorem lb_481 (hC : SndC g HB l MM call) : Snd g HB l call cL_law 7 yL_law.cls yL_law.name 481 (lf (q_load isR 0 482)) := lf_ok (p_aload_n (by decide +kernel : decode cL_law 481 = .ok (.aload_n 0, 1)) rfl rfl)
set_option maxRecDepth 100000 in
theorem lb_482 (hC : SndC g HB l MM call) : Snd g HB l call cL_law 7 yL_law.cls yL_law.name 482 (lf (q_load isI 4 484)) := lf_ok (p_iload (by decide +kernel : decode cL_law 482 = .ok (.iload 4, 2)) rfl)
set_option maxRecDepth 100000 in
theorem lb_484 (hC : SndC g HB l MM call) : Snd g HB l call cL_law 7 yL_law.cls yL_law.name 484 (lf (q_push (.inl 1) 485)) := lf_ok (p_iconst (by decide +kernel : decode cL_law 484 = .ok (.iconst 1, 1)) (by decide +kernel) rfl)
set_option maxRecDepth 100000 in
theorem lb_485 (hC : SndC g HB l MM call) : Snd g HB l call cL_law 7 yL_law.cls yL_law.name 485 (lf (q_bin (iop2 (fun x y => x + y)) 486)) := lf_ok (p_iadd (by decide +kernel : decode cL_law 485 = .ok (.iadd, 1)) rfl)
set_option maxRecDepth 100000 in
theorem lb_486 (hC : SndC g HB l MM call) (hL : g.2.1 91 = L0) (hsc : ∀ j, j < L0 → cV g (sc j) = .int (nI (g.2.1 (2000 + j)))) : Snd g HB l call cL_law 7 yL_law.cls yL_law.name 486 (s_sld L0 sc 487) := m_sld hL hsc (by decide +kernel : decode cL_law 486 = .ok (.iaload, 1)) rfl
set_option maxRecDepth 100000 in
theorem lb_487 (hC : SndC g HB l MM call) : Snd g HB l call cL_law 7 yL_law.cls yL_law.name 487 (s_cV 10 109 1 21 490) := c_V (C := RX12) (T := TX12) (N := 70) (ci := 10) rfl hC (M := MM) (id := 109) (d := D_109) rfl mok_109 rfl rfl (tin 9 7 (by decide +kernel) rfl) (tin 9 8 (by decide +kernel) rfl) (tin 9 9 (by decide +kernel) rfl) (tin 1 12 (by decide +kernel) rfl) (by decide +kernel : decode cL_law 487 = .ok (.invokevirtual 79, 3)) rfl
set_option maxRecDepth 100000 in
theorem lb_490 (hC : SndC g HB l MM call) : Snd g HB l call cL_law 7 yL_law.cls yL_law.name 490 (s_br2 0 618 493) := b_ieq (by decide +kernel : decode cL_law 490 = .ok (.if_icmp .eq 128, 3)) (by decide) rfl
set_option maxRecDepth 100000 in
theorem lb_495 (hC : SndC g HB l MM call) : Snd g HB l call cL_law 7 yL_law.cls yL_law.name 495 (lf (q_load isR 1 496)) := lf_ok (p_aload_n (by decide +kernel : decode cL_law 495 = .ok (.aload_n 1, 1)) rfl rfl)
set_option maxRecDepth 100000 in
theorem lb_496 (hC : SndC g HB l MM call) : Snd g HB l call cL_law 7 yL_law.cls yL_law.name 496 (lf (q_load isR 0 497)) := lf_ok (p_aload_n (by decide +kernel : decode cL_law 496 = .ok (.aload_n 0, 1)) rfl rfl)
set_option maxRecDepth 100000 in
theorem lb_497 (hC : SndC g HB l MM call) : Snd g HB l call cL_law 7 yL_law.cls yL_law.name 497 (lf (q_load isI 4 499)) := lf_ok (p_iload (by decide +kernel : decode cL_law 497 = .ok (.iload 4, 2)) rfl)
set_option maxRecDepth 100000 in
theorem lb_499 (hC : SndC g HB l MM call) : Snd g HB l call cL_law 7 yL_law.cls yL_law.name 499 (lf (q_push (.inl 1) 500)) := lf_ok (p_iconst (by decide +kernel : decode cL_law 499 = .ok (.iconst 1, 1)) (by decide +kernel) rfl)
set_option maxRecDepth 100000 in
theorem lb_500 (hC : SndC g HB l MM call) : Snd g HB l call cL_law 7 yL_law.cls yL_law.name 500 (lf (q_bin (iop2 (fun x y => x + y)) 501)) := lf_ok (p_iadd (by decide +kernel : decode cL_law 500 = .ok (.iadd, 1)) rfl)
set_option maxRecDepth 100000 in
theorem lb_501 (hC : SndC g HB l MM call) (hL : g.2.1 91 = L0) (hsc : ∀ j, j < L0 → cV g (sc j) = .int (nI (g.2.1 (2000 + j)))) : Snd g HB l call cL_law 7 yL_law.cls yL_law.name 501 (s_sld L0 sc 502) := m_sld hL hsc (by decide +kernel : decode cL_law 501 = .ok (.iaload, 1)) rfl
set_option maxRecDepth 100000 in
theorem lb_502 (hC : SndC g HB l MM call) : Snd g HB l call cL_law 7 yL_law.cls yL_law.name 502 (lf (q_load isR 0 503)) := lf_ok (p_aload_n (by decide +kernel : decode cL_law 502 = .ok (.aload_n 0, 1)) rfl rfl)
set_option maxRecDepth 100000 in
theorem lb_503 (hC : SndC g HB l MM call) : Snd g HB l call cL_law 7 yL_law.cls yL_law.name 503 (lf (q_load isI 4 505)) := lf_ok (p_iload (by decide +kernel : decode cL_law 503 = .ok (.iload 4, 2)) rfl)
set_option maxRecDepth 100000 in
theorem lb_505 (hC : SndC g HB l MM call) : Snd g HB l call cL_law 7 yL_law.cls yL_law.name 505 (lf (q_push (.inl 2) 506)) := lf_ok (p_iconst (by decide +kernel : decode cL_law 505 = .ok (.iconst 2, 1)) (by decide +kernel) rfl)
set_option maxRecDepth 100000 in
theorem lb_506 (hC : SndC g HB l MM call) : Snd g HB l call cL_law 7 yL_law.cls yL_law.name 506 (lf (q_bin (iop2 (fun x y => x + y)) 507)) := lf_ok (p_iadd (by decide +kernel : decode cL_law 506 = .ok (.iadd, 1)) rfl)
set_option maxRecDepth 100000 in
theorem lb_507 (hC : SndC g HB l MM call) (hL : g.2.1 91 = L0) (hsc : ∀ j, j < L0 → cV g (sc j) = .int (nI (g.2.1 (2000 + j)))) : Snd g HB l call cL_law 7 yL_law.cls yL_law.name 507 (s_sld L0 sc 508) := m_sld hL hsc (by decide +kernel : decode cL_law 507 = .ok (.iaload, 1)) rfl
set_option maxRecDepth 100000 in
theorem lb_508 (hC : SndC g HB l MM call) : Snd g HB l call cL_law 7 yL_law.cls yL_law.name 508 (s_cV 9 90 2 24 511) := c_V (C := RX11) (T := TX11) (N := 17) (ci := 9) rfl hC (M := MM) (id := 90) (d := D_90) rfl mok_90 rfl rfl (tin 3 12 (by decide +kernel) rfl) (tin 3 13 (by decide +kernel) rfl) (tin 3 14 (by decide +kernel) rfl) (tin 1 1 (by decide +kernel) rfl) (by decide +kernel : decode cL_law 508 = .ok (.invokevirtual 80, 3)) rfl
set_option maxRecDepth 100000 in
theorem lb_511 (hC : SndC g HB l MM call) : Snd g HB l call cL_law 7 yL_law.cls yL_law.name 511 (lf (q_load isR 2 512)) := lf_ok (p_aload_n (by decide +kernel : decode cL_law 511 = .ok (.aload_n 2, 1)) rfl rfl)
set_option maxRecDepth 100000 in
theorem lb_512 (hC : SndC g HB l MM call) : Snd g HB l call cL_law 7 yL_law.cls yL_law.name 512 (lf (q_load isR 0 513)) := lf_ok (p_aload_n (by decide +kernel : decode cL_law 512 = .ok (.aload_n 0, 1)) rfl rfl)
set_option maxRecDepth 100000 in
theorem lb_513 (hC : SndC g HB l MM call) : Snd g HB l call cL_law 7 yL_law.cls yL_law.name 513 (lf (q_load isI 4 515)) := lf_ok (p_iload (by decide +kernel : decode cL_law 513 = .ok (.iload 4, 2)) rfl)
set_option maxRecDepth 100000 in
theorem lb_515 (hC : SndC g HB l MM call) : Snd g HB l call cL_law 7 yL_law.cls yL_law.name 515 (lf (q_push (.inl 1) 516)) := lf_ok (p_iconst (by decide +kernel : decode cL_law 515 = .ok (.iconst 1, 1)) (by decide +kernel) rfl)
set_option maxRecDepth 100000 in
theorem lb_516 (hC : SndC g HB l MM call) : Snd g HB l call cL_law 7 yL_law.cls yL_law.name 516 (lf (q_bin (iop2 (fun x y => x + y)) 517)) := lf_ok (p_iadd (by decide +kernel : decode cL_law 516 = .ok (.iadd, 1)) rfl)
set_option maxRecDepth 100000 in
theorem lb_517 (hC : SndC g HB l MM call) (hL : g.2.1 91 = L0) (hsc : ∀ j, j < L0 → cV g (sc j) = .int (nI (g.2.1 (2000 + j)))) : Snd g HB l call cL_law 7 yL_law.cls yL_law.name 517 (s_sld L0 sc 518) := m_sld hL hsc (by decide +kernel : decode cL_law 517 = .ok (.iaload, 1)) rfl
set_option maxRecDepth 100000 in
theorem lb_518 (hC : SndC g HB l MM call) : Snd g HB l call cL_law 7 yL_law.cls yL_law.name 518 (lf (q_load isR 0 519)) := lf_ok (p_aload_n (by decide +kernel : decode cL_law 518 = .ok (.aload_n 0, 1)) rfl rfl)
set_option maxRecDepth 100000 in
theorem lb_519 (hC : SndC g HB l MM call) : Snd g HB l call cL_law 7 yL_law.cls yL_law.name 519 (lf (q_load isI 4 521)) := lf_ok (p_iload (by decide +kernel : decode cL_law 519 = .ok (.iload 4, 2)) rfl)
set_option maxRecDepth 100000 in
theorem lb_521 (hC : SndC g HB l MM call) : Snd g HB l call cL_law 7 yL_law.cls yL_law.name 521 (lf (q_push (.inl 2) 522)) := lf_ok (p_iconst (by decide +kernel : decode cL_law 521 = .ok (.iconst 2, 1)) (by decide +kernel) rfl)
set_option maxRecDepth 100000 in
theorem lb_522 (hC : SndC g HB l MM call) : Snd g HB l call cL_law 7 yL_law.cls yL_law.name 522 (lf (q_bin (iop2 (fun x y => x + y)) 523)) := lf_ok (p_iadd (by decide +kernel : decode cL_law 522 = .ok (.iadd, 1)) rfl)
set_option maxRecDepth 100000 in
theorem lb_523 (hC : SndC g HB l MM call) (hL : g.2.1 91 = L0) (hsc : ∀ j, j < L0 → cV g (sc j) = .int (nI (g.2.1 (2000 + j)))) : Snd g HB l call cL_law 7 yL_law.cls yL_law.name 523 (s_sld L0 sc 524) := m_sld hL hsc (by decide +kernel : decode cL_law 523 = .ok (.iaload, 1)) rfl
set_option maxRecDepth 100000 in
theorem lb_524 (hC : SndC g HB l MM call) : Snd g HB l call cL_law 7 yL_law.cls yL_law.name 524 (s_cV 10 111 2 22 527) := c_V (C := RX12) (T := TX12) (N := 70) (ci := 10) rfl hC (M := MM) (id := 111) (d := D_111) rfl mok_111 rfl rfl (tin 9 11 (by decide +kernel) rfl) (tin 9 12 (by decide +kernel) rfl) (tin 9 13 (by decide +kernel) rfl) (tin 1 12 (by decide +kernel) rfl) (by decide +kernel : decode cL_law 524 = .ok (.invokevirtual 84, 3)) rfl
set_option maxRecDepth 100000 in
theorem lb_527 (hC : SndC g HB l MM call) : Snd g HB l call cL_law 7 yL_law.cls yL_law.name 527 (s_br2 0 618 530) := b_ieq (by decide +kernel : decode cL_law 527 = .ok (.if_icmp .eq 91, 3)) (by decide) rfl
set_option maxRecDepth 100000 in
theorem lb_532 (hC : SndC g HB l MM call) : Snd g HB l call cL_law 7 yL_law.cls yL_law.name 532 (lf (q_load isR 1 533)) := lf_ok (p_aload_n (by decide +kernel : decode cL_law 532 = .ok (.aload_n 1, 1)) rfl rfl)
set_option maxRecDepth 100000 in
theorem lb_533 (hC : SndC g HB l MM call) : Snd g HB l call cL_law 7 yL_law.cls yL_law.name 533 (lf (q_load isR 0 534)) := lf_ok (p_aload_n (by decide +kernel : decode cL_law 533 = .ok (.aload_n 0, 1)) rfl rfl)
set_option maxRecDepth 100000 in
theorem lb_534 (hC : SndC g HB l MM call) : Snd g HB l call cL_law 7 yL_law.cls yL_law.name 534 (lf (q_load isI 4 536)) := lf_ok (p_iload (by decide +kernel : decode cL_law 534 = .ok (.iload 4, 2)) rfl)
set_option maxRecDepth 100000 in
theorem lb_536 (hC : SndC g HB l MM call) : Snd g HB l call cL_law 7 yL_law.cls yL_law.name 536 (lf (q_push (.inl 1) 537)) := lf_ok (p_iconst (by decide +kernel : decode cL_law 536 = .ok (.iconst 1, 1)) (by decide +kernel) rfl)
set_option maxRecDepth 100000 in
theorem lb_537 (hC : SndC g HB l MM call) : Snd g HB l call cL_law 7 yL_law.cls yL_law.name 537 (lf (q_bin (iop2 (fun x y => x + y)) 538)) := lf_ok (p_iadd (by decide +kernel : decode cL_law 537 = .ok (.iadd, 1)) rfl)
set_option maxRecDepth 100000 in
theorem lb_538 (hC : SndC g HB l MM call) (hL : g.2.1 91 = L0) (hsc : ∀ j, j < L0 → cV g (sc j) = .int (nI (g.2.1 (2000 + j)))) : Snd g HB l call cL_law 7 yL_law.cls yL_law.name 538 (s_sld L0 sc 539) := m_sld hL hsc (by decide +kernel : decode cL_law 538 = .ok (.iaload, 1)) rfl
set_option maxRecDepth 100000 in
theorem lb_539 (hC : SndC g HB l MM call) : Snd g HB l call cL_law 7 yL_law.cls yL_law.name 539 (lf (q_load isR 0 540)) := lf_ok (p_aload_n (by decide +kernel : decode cL_law 539 = .ok (.aload_n 0, 1)) rfl rfl)
set_option maxRecDepth 100000 in
theorem lb_540 (hC : SndC g HB l MM call) : Snd g HB l call cL_law 7 yL_law.cls yL_law.name 540 (lf (q_load isI 4 542)) := lf_ok (p_iload (by decide +kernel : decode cL_law 540 = .ok (.iload 4, 2)) rfl)
set_option maxRecDepth 100000 in
theorem lb_542 (hC : SndC g HB l MM call) : Snd g HB l call cL_law 7 yL_law.cls yL_law.name 542 (lf (q_push (.inl 2) 543)) := lf_ok (p_iconst (by decide +kernel : decode cL_law 542 = .ok (.iconst 2, 1)) (by decide +kernel) rfl)
set_option maxRecDepth 100000 in
theorem lb_543 (hC : SndC g HB l MM call) : Snd g HB l call cL_law 7 yL_law.cls yL_law.name 543 (lf (q_bin (iop2 (fun x y => x + y)) 544)) := lf_ok (p_iadd (by decide +kernel : decode cL_law 543 = .ok (.iadd, 1)) rfl)
set_option maxRecDepth 100000 in
theorem lb_544 (hC : SndC g HB l MM call) (hL : g.2.1 91 = L0) (hsc : ∀ j, j < L0 → cV g (sc j) = .int (nI (g.2.1 (2000 + j)))) : Snd g HB l call cL_law 7 yL_law.cls yL_law.name 544 (s_sld L0 sc 545) := m_sld hL hsc (by decide +kernel : decode cL_law 544 = .ok (.iaload, 1)) rfl
set_option maxRecDepth 100000 in
theorem lb_545 (hC : SndC g HB l MM call) : Snd g HB l call cL_law 7 yL_law.cls yL_law.name 545 (lf (q_load isR 0 546)) := lf_ok (p_aload_n (by decide +kernel : decode cL_law 545 = .ok (.aload_n 0, 1)) rfl rfl)
set_option maxRecDepth 100000 in
theorem lb_546 (hC : SndC g HB l MM call) : Snd g HB l call cL_law 7 yL_law.cls yL_law.name 546 (lf (q_load isI 4 548)) := lf_ok (p_iload (by decide +kernel : decode cL_law 546 = .ok (.iload 4, 2)) rfl)
set_option maxRecDepth 100000 in
theorem lb_548 (hC : SndC g HB l MM call) : Snd g HB l call cL_law 7 yL_law.cls yL_law.name 548 (lf (q_push (.inl 3) 549)) := lf_ok (p_iconst (by decide +kernel : decode cL_law 548 = .ok (.iconst 3, 1)) (by decide +kernel) rfl)
set_option maxRecDepth 100000 in
theorem lb_549 (hC : SndC g HB l MM call) : Snd g HB l call cL_law 7 yL_law.cls yL_law.name 549 (lf (q_bin (iop2 (fun x y => x + y)) 550)) := lf_ok (p_iadd (by decide +kernel : decode cL_law 549 = .ok (.iadd, 1)) rfl)
set_option maxRecDepth 100000 in
theorem lb_550 (hC : SndC g HB l MM call) (hL : g.2.1 91 = L0) (hsc : ∀ j, j < L0 → cV g (sc j) = .int (nI (g.2.1 (2000 + j)))) : Snd g HB l call cL_law 7 yL_law.cls yL_law.name 550 (s_sld L0 sc 551) := m_sld hL hsc (by decide +kernel : decode cL_law 550 = .ok (.iaload, 1)) rfl
set_option maxRecDepth 100000 in
theorem lb_551 (hC : SndC g HB l MM call) : Snd g HB l call cL_law 7 yL_law.cls yL_law.name 551 (lf (q_load isR 0 552)) := lf_ok (p_aload_n (by decide +kernel : decode cL_law 551 = .ok (.aload_n 0, 1)) rfl rfl)
set_option maxRecDepth 100000 in
theorem lb_552 (hC : SndC g HB l MM call) : Snd g HB l call cL_law 7 yL_law.cls yL_law.name 552 (lf (q_load isI 4 554)) := lf_ok (p_iload (by decide +kernel : decode cL_law 552 = .ok (.iload 4, 2)) rfl)
set_option maxRecDepth 100000 in
theorem lb_554 (hC : SndC g HB l MM call) : Snd g HB l call cL_law 7 yL_law.cls yL_law.name 554 (lf (q_push (.inl 4) 555)) := lf_ok (p_iconst (by decide +kernel : decode cL_law 554 = .ok (.iconst 4, 1)) (by decide +kernel) rfl)
set_option maxRecDepth 100000 in
theorem lb_555 (hC : SndC g HB l MM call) : Snd g HB l call cL_law 7 yL_law.cls yL_law.name 555 (lf (q_bin (iop2 (fun x y => x + y)) 556)) := lf_ok (p_iadd (by decide +kernel : decode cL_law 555 = .ok (.iadd, 1)) rfl)
set_option maxRecDepth 100000 in
theorem lb_556 (hC : SndC g HB l MM call) (hL : g.2.1 91 = L0) (hsc : ∀ j, j < L0 → cV g (sc j) = .int (nI (g.2.1 (2000 + j)))) : Snd g HB l call cL_law 7 yL_law.cls yL_law.name 556 (s_sld L0 sc 557) := m_sld hL hsc (by decide +kernel : decode cL_law 556 = .ok (.iaload, 1)) rfl
set_option maxRecDepth 100000 in
theorem lb_557 (hC : SndC g HB l MM call) : Snd g HB l call cL_law 7 yL_law.cls yL_law.name 557 (s_cV 9 91 4 26 560) := c_V (C := RX11) (T := TX11) (N := 17) (ci := 9) rfl hC (M := MM) (id := 91) (d := D_91) rfl mok_91 rfl rfl (tin 3 32 (by decide +kernel) rfl) (tin 3 33 (by decide +kernel) rfl) (tin 3 34 (by decide +kernel) rfl) (tin 1 1 (by decide +kernel) rfl) (by decide +kernel : decode cL_law 557 = .ok (.invokevirtual 85, 3)) rfl
set_option maxRecDepth 100000 in
theorem lb_560 (hC : SndC g HB l MM call) : Snd g HB l call cL_law 7 yL_law.cls yL_law.name 560 (lf (q_load isR 2 561)) := lf_ok (p_aload_n (by decide +kernel : decode cL_law 560 = .ok (.aload_n 2, 1)) rfl rfl)
set_option maxRecDepth 100000 in
theorem lb_561 (hC : SndC g HB l MM call) : Snd g HB l call cL_law 7 yL_law.cls yL_law.name 561 (lf (q_load isR 0 562)) := lf_ok (p_aload_n (by decide +kernel : decode cL_law 561 = .ok (.aload_n 0, 1)) rfl rfl)
set_option maxRecDepth 100000 in
theorem lb_562 (hC : SndC g HB l MM call) : Snd g HB l call cL_law 7 yL_law.cls yL_law.name 562 (lf (q_load isI 4 564)) := lf_ok (p_iload (by decide +kernel : decode cL_law 562 = .ok (.iload 4, 2)) rfl)
set_option maxRecDepth 100000 in
theorem lb_564 (hC : SndC g HB l MM call) : Snd g HB l call cL_law 7 yL_law.cls yL_law.name 564 (lf (q_push (.inl 1) 565)) := lf_ok (p_iconst (by decide +kernel : decode cL_law 564 = .ok (.iconst 1, 1)) (by decide +kernel) rfl)
set_option maxRecDepth 100000 in
theorem lb_565 (hC : SndC g HB l MM call) : Snd g HB l call cL_law 7 yL_law.cls yL_law.name 565 (lf (q_bin (iop2 (fun x y => x + y)) 566)) := lf_ok (p_iadd (by decide +kernel : decode cL_law 565 = .ok (.iadd, 1)) rfl)
set_option maxRecDepth 100000 in
theorem lb_566 (hC : SndC g HB l MM call) (hL : g.2.1 91 = L0) (hsc : ∀ j, j < L0 → cV g (sc j) = .int (nI (g.2.1 (2000 + j)))) : Snd g HB l call cL_law 7 yL_law.cls yL_law.name 566 (s_sld L0 sc 567) := m_sld hL hsc (by decide +kernel : decode cL_law 566 = .ok (.iaload, 1)) rfl
set_option maxRecDepth 100000 in
theorem lb_567 (hC : SndC g HB l MM call) : Snd g HB l call cL_law 7 yL_law.cls yL_law.name 567 (lf (q_load isR 0 568)) := lf_ok (p_aload_n (by decide +kernel : decode cL_law 567 = .ok (.aload_n 0, 1)) rfl rfl)
set_option maxRecDepth 100000 in
theorem lb_568 (hC : SndC g HB l MM call) : Snd g HB l call cL_law 7 yL_law.cls yL_law.name 568 (lf (q_load isI 4 570)) := lf_ok (p_iload (by decide +kernel : decode cL_law 568 = .ok (.iload 4, 2)) rfl)
set_option maxRecDepth 100000 in
theorem lb_570 (hC : SndC g HB l MM call) : Snd g HB l call cL_law 7 yL_law.cls yL_law.name 570 (lf (q_push (.inl 2) 571)) := lf_ok (p_iconst (by decide +kernel : decode cL_law 570 = .ok (.iconst 2, 1)) (by decide +kernel) rfl)
set_option maxRecDepth 100000 in
theorem lb_571 (hC : SndC g HB l MM call) : Snd g HB l call cL_law 7 yL_law.cls yL_law.name 571 (lf (q_bin (iop2 (fun x y => x + y)) 572)) := lf_ok (p_iadd (by decide +kernel : decode cL_law 571 = .ok (.iadd, 1)) rfl)
set_option maxRecDepth 100000 in
theorem lb_572 (hC : SndC g HB l MM call) (hL : g.2.1 91 = L0) (hsc : ∀ j, j < L0 → cV g (sc j) = .int (nI (g.2.1 (2000 + j)))) : Snd g HB l call cL_law 7 yL_law.cls yL_law.name 572 (s_sld L0 sc 573) := m_sld hL hsc (by decide +kernel : decode cL_law 572 = .ok (.iaload, 1)) rfl
set_option maxRecDepth 100000 in
theorem lb_573 (hC : SndC g HB l MM call) : Snd g HB l call cL_law 7 yL_law.cls yL_law.name 573 (lf (q_load isR 0 574)) := lf_ok (p_aload_n (by decide +kernel : decode cL_law 573 = .ok (.aload_n 0, 1)) rfl rfl)
set_option maxRecDepth 100000 in
theorem lb_574 (hC : SndC g HB l MM call) : Snd g HB l call cL_law 7 yL_law.cls yL_law.name 574 (lf (q_load isI 4 576)) := lf_ok (p_iload (by decide +kernel : decode cL_law 574 = .ok (.iload 4, 2)) rfl)
set_option maxRecDepth 100000 in
theorem lb_576 (hC : SndC g HB l MM call) : Snd g HB l call cL_law 7 yL_law.cls yL_law.name 576 (lf (q_push (.inl 3) 577)) := lf_ok (p_iconst (by decide +kernel : decode cL_law 576 = .ok (.iconst 3, 1)) (by decide +kernel) rfl)
set_option maxRecDepth 100000 in
theorem lb_577 (hC : SndC g HB l MM call) : Snd g HB l call cL_law 7 yL_law.cls yL_law.name 577 (lf (q_bin (iop2 (fun x y => x + y)) 578)) := lf_ok (p_iadd (by decide +kernel : decode cL_law 577 = .ok (.iadd, 1)) rfl)
set_option maxRecDepth 100000 in
theorem lb_578 (hC : SndC g HB l MM call) (hL : g.2.1 91 = L0) (hsc : ∀ j, j < L0 → cV g (sc j) = .int (nI (g.2.1 (2000 + j)))) : Snd g HB l call cL_law 7 yL_law.cls yL_law.name 578 (s_sld L0 sc 579) := m_sld hL hsc (by decide +kernel : decode cL_law 578 = .ok (.iaload, 1)) rfl
set_option maxRecDepth 100000 in
theorem lb_579 (hC : SndC g HB l MM call) : Snd g HB l call cL_law 7 yL_law.cls yL_law.name 579 (lf (q_load isR 0 580)) := lf_ok (p_aload_n (by decide +kernel : decode cL_law 579 = .ok (.aload_n 0, 1)) rfl rfl)
set_option maxRecDepth 100000 in
theorem lb_580 (hC : SndC g HB l MM call) : Snd g HB l call cL_law 7 yL_law.cls yL_law.name 580 (lf (q_load isI 4 582)) := lf_ok (p_iload (by decide +kernel : decode cL_law 580 = .ok (.iload 4, 2)) rfl)
set_option maxRecDepth 100000 in
theorem lb_582 (hC : SndC g HB l MM call) : Snd g HB l call cL_law 7 yL_law.cls yL_law.name 582 (lf (q_push (.inl 4) 583)) := lf_ok (p_iconst (by decide +kernel : decode cL_law 582 = .ok (.iconst 4, 1)) (by decide +kernel) rfl)
set_option maxRecDepth 100000 in
theorem lb_583 (hC : SndC g HB l MM call) : Snd g HB l call cL_law 7 yL_law.cls yL_law.name 583 (lf (q_bin (iop2 (fun x y => x + y)) 584)) := lf_ok (p_iadd (by decide +kernel : decode cL_law 583 = .ok (.iadd, 1)) rfl)
set_option maxRecDepth 100000 in
theorem lb_584 (hC : SndC g HB l MM call) (hL : g.2.1 91 = L0) (hsc : ∀ j, j < L0 → cV g (sc j) = .int (nI (g.2.1 (2000 + j)))) : Snd g HB l call cL_law 7 yL_law.cls yL_law.name 584 (s_sld L0 sc 585) := m_sld hL hsc (by decide +kernel : decode cL_law 584 = .ok (.iaload, 1)) rfl
set_option maxRecDepth 100000 in
theorem lb_585 (hC : SndC g HB l MM call) : Snd g HB l call cL_law 7 yL_law.cls yL_law.name 585 (s_cV 10 112 4 24 588) := c_V (C := RX12) (T := TX12) (N := 70) (ci := 10) rfl hC (M := MM) (id := 112) (d := D_112) rfl mok_112 rfl rfl (tin 9 23 (by decide +kernel) rfl) (tin 9 24 (by decide +kernel) rfl) (tin 9 25 (by decide +kernel) rfl) (tin 1 12 (by decide +kernel) rfl) (by decide +kernel : decode cL_law 585 = .ok (.invokevirtual 89, 3)) rfl
set_option maxRecDepth 100000 in
theorem lb_588 (hC : SndC g HB l MM call) : Snd g HB l call cL_law 7 yL_law.cls yL_law.name 588 (s_br2 0 618 591) := b_ieq (by decide +kernel : decode cL_law 588 = .ok (.if_icmp .eq 30, 3)) (by decide) rfl
set_option maxRecDepth 100000 in
theorem lb_593 (hC : SndC g HB l MM call) : Snd g HB l call cL_law 7 yL_law.cls yL_law.name 593 (lf (q_load isR 1 594)) := lf_ok (p_aload_n (by decide +kernel : decode cL_law 593 = .ok (.aload_n 1, 1)) rfl rfl)
set_option maxRecDepth 100000 in
theorem lb_594 (hC : SndC g HB l MM call) : Snd g HB l call cL_law 7 yL_law.cls yL_law.name 594 (lf (q_load isR 0 595)) := lf_ok (p_aload_n (by decide +kernel : decode cL_law 594 = .ok (.aload_n 0, 1)) rfl rfl)
set_option maxRecDepth 100000 in
theorem lb_595 (hC : SndC g HB l MM call) : Snd g HB l call cL_law 7 yL_law.cls yL_law.name 595 (lf (q_load isI 4 597)) := lf_ok (p_iload (by decide +kernel : decode cL_law 595 = .ok (.iload 4, 2)) rfl)
set_option maxRecDepth 100000 in
theorem lb_597 (hC : SndC g HB l MM call) : Snd g HB l call cL_law 7 yL_law.cls yL_law.name 597 (lf (q_push (.inl 1) 598)) := lf_ok (p_iconst (by decide +kernel : decode cL_law 597 = .ok (.iconst 1, 1)) (by decide +kernel) rfl)
set_option maxRecDepth 100000 in
theorem lb_598 (hC : SndC g HB l MM call) : Snd g HB l call cL_law 7 yL_law.cls yL_law.name 598 (lf (q_bin (iop2 (fun x y => x + y)) 599)) := lf_ok (p_iadd (by decide +kernel : decode cL_law 598 = .ok (.iadd, 1)) rfl)
set_option maxRecDepth 100000 in
theorem lb_599 (hC : SndC g HB l MM call) (hL : g.2.1 91 = L0) (hsc : ∀ j, j < L0 → cV g (sc j) = .int (nI (g.2.1 (2000 + j)))) : Snd g HB l call cL_law 7 yL_law.cls yL_law.name 599 (s_sld L0 sc 600) := m_sld hL hsc (by decide +kernel : decode cL_law 599 = .ok (.iaload, 1)) rfl
set_option maxRecDepth 100000 in
theorem lb_600 (hC : SndC g HB l MM call) : Snd g HB l call cL_law 7 yL_law.cls yL_law.name 600 (s_cV 9 92 1 21 603) := c_V (C := RX11) (T := TX11) (N := 17) (ci := 9) rfl hC (M := MM) (id := 92) (d := D_92) rfl mok_92 rfl rfl (tin 3 54 (by decide +kernel) rfl) (tin 3 55 (by decide +kernel) rfl) (tin 3 56 (by decide +kernel) rfl) (tin 1 1 (by decide +kernel) rfl) (by decide +kernel : decode cL_law 600 = .ok (.invokevirtual 90, 3)) rfl
set_option maxRecDepth 100000 in
theorem lb_603 (hC : SndC g HB l MM call) : Snd g HB l call cL_law 7 yL_law.cls yL_law.name 603 (lf (q_load isR 2 604)) := lf_ok (p_aload_n (by decide +kernel : decode cL_law 603 = .ok (.aload_n 2, 1)) rfl rfl)
set_option maxRecDepth 100000 in
theorem lb_604 (hC : SndC g HB l MM call) : Snd g HB l call cL_law 7 yL_law.cls yL_law.name 604 (lf (q_load isR 0 605)) := lf_ok (p_aload_n (by decide +kernel : decode cL_law 604 = .ok (.aload_n 0, 1)) rfl rfl)
set_option maxRecDepth 100000 in
theorem lb_605 (hC : SndC g HB l MM call) : Snd g HB l call cL_law 7 yL_law.cls yL_law.name 605 (lf (q_load isI 4 607)) := lf_ok (p_iload (by decide +kernel : decode cL_law 605 = .ok (.iload 4, 2)) rfl)
set_option maxRecDepth 100000 in
theorem lb_607 (hC : SndC g HB l MM call) : Snd g HB l call cL_law 7 yL_law.cls yL_law.name 607 (lf (q_push (.inl 1) 608)) := lf_ok (p_iconst (by decide +kernel : decode cL_law 607 = .ok (.iconst 1, 1)) (by decide +kernel) rfl)
set_option maxRecDepth 100000 in
theorem lb_608 (hC : SndC g HB l MM call) : Snd g HB l call cL_law 7 yL_law.cls yL_law.name 608 (lf (q_bin (iop2 (fun x y => x + y)) 609)) := lf_ok (p_iadd (by decide +kernel : decode cL_law 608 = .ok (.iadd, 1)) rfl)
set_option maxRecDepth 100000 in
theorem lb_609 (hC : SndC g HB l MM call) (hL : g.2.1 91 = L0) (hsc : ∀ j, j < L0 → cV g (sc j) = .int (nI (g.2.1 (2000 + j)))) : Snd g HB l call cL_law 7 yL_law.cls yL_law.name 609 (s_sld L0 sc 610) := m_sld hL hsc (by decide +kernel : decode cL_law 609 = .ok (.iaload, 1)) rfl
set_option maxRecDepth 100000 in
theorem lb_610 (hC : SndC g HB l MM call) : Snd g HB l call cL_law 7 yL_law.cls yL_law.name 610 (s_cV 10 113 1 24 613) := c_V (C := RX12) (T := TX12) (N := 70) (ci := 10) rfl hC (M := MM) (id := 113) (d := D_113) rfl mok_113 rfl rfl (tin 9 27 (by decide +kernel) rfl) (tin 9 28 (by decide +kernel) rfl) (tin 9 29 (by decide +kernel) rfl) (tin 1 12 (by decide +kernel) rfl) (by decide +kernel : decode cL_law 610 = .ok (.invokevirtual 93, 3)) rfl
set_option maxRecDepth 100000 in
theorem lb_613 (hC : SndC g HB l MM call) : Snd g HB l call cL_law 7 yL_law.cls yL_law.name 613 (s_br2 0 618 616) := b_ieq (by decide +kernel : decode cL_law 613 = .ok (.if_icmp .eq 5, 3)) (by decide) rfl
set_option maxRecDepth 100000 in
theorem lb_618 (hC : SndC g HB l MM call) : Snd g HB l call cL_law 7 yL_law.cls yL_law.name 618 (lf (q_iinc 4 6 7 621)) := lf_ok (p_iinc (by decide +kernel : decode cL_law 618 = .ok (.iinc 4 6, 3)) rfl)
set_option maxRecDepth 100000 in
theorem lb_621 (hC : SndC g HB l MM call) : Snd g HB l call cL_law 7 yL_law.cls yL_law.name 621 (lf (q_goto 23)) := lf_ok (p_goto (by decide +kernel : decode cL_law 621 = .ok (.goto (-598), 3)) (by decide))
set_option maxRecDepth 100000 in
theorem lb_624 (hC : SndC g HB l MM call) : Snd g HB l call cL_law 7 yL_law.cls yL_law.name 624 (lf (q_push (.inl 1) 625)) := lf_ok (p_iconst (by decide +kernel : decode cL_law 624 = .ok (.iconst 1, 1)) (by decide +kernel) rfl)
set_option maxRecDepth 100000 in
theorem lb_ok (hL : g.2.1 91 = L0) (hsc : ∀ j, j < L0 → cV g (sc j) = .int (nI (g.2.1 (2000 + j)))) (hC : SndC g HB l MM call) : ∀ x ∈ PLB L0 sc, Snd g HB l call cL_law 7 yL_law.cls yL_law.name x.1 x.2 := faz (lb_23 hC) (faz (lb_25 hC) (faz (lb_26 hC hL) (faz (lb_27 hC) (faz (lb_29 hC) (faz (lb_30 hC) (faz (lb_33 hC) (faz (lb_34 hC) (faz (lb_36 hC hL hsc) (faz (lb_40 hC) (faz (lb_108 hC) (faz (lb_109 hC) (faz (lb_110 hC) (faz (lb_112 hC) (faz (lb_113 hC) (faz (lb_114 hC hL hsc) (faz (lb_115 hC) (faz (lb_116 hC) (faz (lb_118 hC) (faz (lb_119 hC) (faz (lb_120 hC hL hsc) (faz (lb_121 hC) (faz (lb_122 hC) (faz (lb_124 hC) (faz (lb_125 hC) (faz (lb_126 hC hL hsc) (faz (lb_127 hC) (faz (lb_128 hC) (faz (lb_130 hC) (faz (lb_131 hC) (faz (lb_132 hC hL hsc) (faz (lb_133 hC) (faz (lb_134 hC) (faz (lb_136 hC) (faz (lb_137 hC) (faz (lb_138 hC hL hsc) (faz (lb_139 hC) (faz (lb_142 hC) (faz (lb_143 hC) (faz (lb_144 hC) (faz (lb_146 hC) (faz (lb_147 hC) (faz (lb_148 hC hL hsc) (faz (lb_149 hC) (faz (lb_150 hC) (faz (lb_152 hC) (faz (lb_153 hC) (faz (lb_154 hC hL hsc) (faz (lb_155 hC) (faz (lb_156 hC) (faz (lb_158 hC) (faz (lb_159 hC) (faz (lb_160 hC hL hsc) (faz (lb_161 hC) (faz (lb_162 hC) (faz (lb_164 hC) (faz (lb_165 hC) (faz (lb_166 hC hL hsc) (faz (lb_167 hC) (faz (lb_168 hC) (faz (lb_170 hC) (faz (lb_171 hC) (faz (lb_172 hC hL hsc) (faz (lb_173 hC) (faz (lb_176 hC) (faz (lb_179 hC) (faz (lb_180 hC) (faz (lb_181 hC) (faz (lb_183 hC) (faz (lb_184 hC) (faz (lb_185 hC hL hsc) (faz (lb_186 hC) (faz (lb_189 hC) (faz (lb_190 hC) (faz (lb_191 hC) (faz (lb_193 hC) (faz (lb_194 hC) (faz (lb_195 hC hL hsc) (faz (lb_196 hC) (faz (lb_199 hC) (faz (lb_204 hC) (faz (lb_205 hC) (faz (lb_209 hC) (faz (lb_211 hC) (faz (lb_212 hC) (faz (lb_215 hC) (faz (lb_217 hC) (faz (lb_218 hC) (faz (lb_221 hC) (faz (lb_223 hC) (faz (lb_228 hC) (faz (lb_230 hC) (faz (lb_233 hC) (faz (lb_234 hC) (faz (lb_235 hC) (faz (lb_236 hC) (faz (lb_238 hC) (faz (lb_239 hC) (faz (lb_240 hC) (faz (lb_245 hC) (faz (lb_248 hC) (faz (lb_249 hC) (faz (lb_250 hC) (faz (lb_252 hC) (faz (lb_253 hC) (faz (lb_254 hC hL hsc) (faz (lb_284 hC) (faz (lb_285 hC) (faz (lb_286 hC) (faz (lb_288 hC) (faz (lb_289 hC) (faz (lb_290 hC hL hsc) (faz (lb_291 hC) (faz (lb_292 hC) (faz (lb_294 hC) (faz (lb_295 hC) (faz (lb_296 hC hL hsc) (faz (lb_297 hC) (faz (lb_300 hC) (faz (lb_301 hC) (faz (lb_304 hC) (faz (lb_305 hC) (faz (lb_375 hC) (faz (lb_376 hC) (faz (lb_380 hC) (faz (lb_382 hC) (faz (lb_383 hC) (faz (lb_386 hC) (faz (lb_388 hC) (faz (lb_389 hC) (faz (lb_392 hC) (faz (lb_394 hC) (faz (lb_399 hC) (faz (lb_401 hC) (faz (lb_404 hC) (faz (lb_405 hC) (faz (lb_406 hC) (faz (lb_407 hC) (faz (lb_409 hC) (faz (lb_410 hC) (faz (lb_411 hC) (faz (lb_416 hC) (faz (lb_419 hC) (faz (lb_420 hC) (faz (lb_423 hC) (faz (lb_424 hC) (faz (lb_427 hC) (faz (lb_432 hC) (faz (lb_433 hC) (faz (lb_434 hC) (faz (lb_436 hC) (faz (lb_437 hC) (faz (lb_438 hC hL hsc) (faz (lb_439 hC) (faz (lb_442 hC) (faz (lb_443 hC) (faz (lb_444 hC) (faz (lb_446 hC) (faz (lb_447 hC) (faz (lb_448 hC hL hsc) (faz (lb_449 hC) (faz (lb_452 hC) (faz (lb_457 hC) (faz (lb_458 hC) (faz (lb_461 hC) (faz (lb_462 hC) (faz (lb_465 hC) (faz (lb_470 hC) (faz (lb_471 hC) (faz (lb_472 hC) (faz (lb_474 hC) (faz (lb_475 hC) (faz (lb_476 hC hL hsc) (faz (lb_477 hC) (faz (lb_480 hC) (faz (lb_481 hC) (faz (lb_482 hC) (faz (lb_484 hC) (faz (lb_485 hC) (faz (lb_486 hC hL hsc) (faz (lb_487 hC) (faz (lb_490 hC) (faz (lb_495 hC) (faz (lb_496 hC) (faz (lb_497 hC) (faz (lb_499 hC) (faz (lb_500 hC) (faz (lb_501 hC hL hsc) (faz (lb_502 hC) (faz (lb_503 hC) (faz (lb_505 hC) (faz (lb_506 hC) (faz (lb_507 hC hL hsc) (faz (lb_508 hC) (faz (lb_511 hC) (faz (lb_512 hC) (faz (lb_513 hC) (faz (lb_515 hC) (faz (lb_516 hC) (faz (lb_517 hC hL hsc) (faz (lb_518 hC) (faz (lb_519 hC) (faz (lb_521 hC) (faz (lb_522 hC) (faz (lb_523 hC hL hsc) (faz (lb_524 hC) (faz (lb_527 hC) (faz (lb_532 hC) (faz (lb_533 hC) (faz (lb_534 hC) (faz (lb_536 hC) (faz (lb_537 hC) (faz (lb_538 hC hL hsc) (faz (lb_539 hC) (faz (lb_540 hC) (faz (lb_542 hC) (faz (lb_543 hC) (faz (lb_544 hC hL hsc) (faz (lb_545 hC) (faz (lb_546 hC) (faz (lb_548 hC) (faz (lb_549 hC) (faz (lb_550 hC hL hsc) (faz (lb_551 hC) (faz (lb_552 hC) (faz (lb_554 hC) (faz (lb_555 hC) (faz (lb_556 hC hL hsc) (faz (lb_557 hC) (faz (lb_560 hC) (faz (lb_561 hC) (faz (lb_562 hC) (faz (lb_564 hC) (faz (lb_565 hC) (faz (lb_566 hC hL hsc) (faz (lb_567 hC) (faz (lb_568 hC) (faz (lb_570 hC) (faz (lb_571 hC) (faz (lb_572 hC hL hsc) (faz (lb_573 hC) (faz (lb_574 hC) (faz (lb_576 hC) (faz (lb_577 hC) (faz (lb_578 hC hL hsc) (faz (lb_579 hC) (faz (lb_580 hC) (faz (lb_582 hC) (faz (lb_583 hC) (faz (lb_584 hC hL hsc) (faz (lb_585 hC) (faz (lb_588 hC) (faz (lb_593 hC) (faz (lb_594 hC) (faz (lb_595 hC) (faz (lb_597 hC) (faz (lb_598 hC) (faz (lb_599 hC hL hsc) (faz (lb_600 hC) (faz (lb_603 hC) (faz (lb_604 hC) (faz (lb_605 hC) (faz (lb_607 hC) (faz (lb_608 hC) (faz (lb_609 hC hL hsc) (faz (lb_610 hC) (faz (lb_613 hC) (faz (lb_618 hC) (faz (lb_621 hC) (faz (lb_624 hC) (fnz))))))))))))))))))))))))))))))))))))))))))))))))))))))))))))))))))))))))))))))))))))))))))))))))))))))))))))))))))))))))))))))))))))))))))))))))))))))))))))))))))))))))))))))))))))))))))))))))))))))))))))))))))))))))))))))))))))))))))))))))))))))))))))))))))))))))))))))
set_option maxRecDepth 100000 in
theorem h_add_0 (hC : SndC g HB l MM call) : Snd g HB l call cL_add 3 yL_add.cls yL_add.name 0 (lf (q_load isR 1 1)) := lf_ok (p_aload_n (by decide +kernel : decode cL_add 0 = .ok (.aload_n 1, 1)) rfl rfl)
set_option maxRecDepth 100000 in
theorem h_add_1 (hC : SndC g HB l MM call) : Snd g HB l call cL_add 3 yL_add.cls yL_add.name 1 (lf (q_push (.inl 0) 2)) := lf_ok (p_iconst (by decide +kernel : decode cL_add 1 = .ok (.iconst 0, 1)) (by decide +kernel) rfl)
set_option maxRecDepth 100000 in
theorem h_add_2 (hC : SndC g HB l MM call) : Snd g HB l call cL_add 3 yL_add.cls yL_add.name 2 (lf (q_load isR 0 3)) := lf_ok (p_aload_n (by decide +kernel : decode cL_add 2 = .ok (.aload_n 0, 1)) rfl rfl)
set_option maxRecDepth 100000 in
theorem h_add_3 (hC : SndC g HB l MM call) : Snd g HB l call cL_add 3 yL_add.cls yL_add.name 3 (s_cV 9 21 0 20 6) := c_V (C := RX11) (T := TX11) (N := 17) (ci := 9) rfl hC (M := MM) (id := 21) (d := D_21) rfl mok_21 rfl rfl (tin 3 78 (by decide +kernel) rfl) (tin 3 79 (by decide +kernel) rfl) (tin 3 80 (by decide +kernel) rfl) (tin 1 1 (by decide +kernel) rfl) (by decide +kernel : decode cL_add 3 = .ok (.invokevirtual 7, 3)) rfl
set_option maxRecDepth 100000 in
theorem h_add_6 (hC : SndC g HB l MM call) : Snd g HB l call cL_add 3 yL_add.cls yL_add.name 6 (lf (q_un f_i2l 7)) := lf_ok (p_i2l (by decide +kernel : decode cL_add 6 = .ok (.i2l, 1)) rfl)
set_option maxRecDepth 100000 in
theorem h_add_7 (hC : SndC g HB l MM call) : Snd g HB l call cL_add 3 yL_add.cls yL_add.name 7 (s_ast (fun t => Nat.beq t 3) cvL 8) := h_last (by decide +kernel : decode cL_add 7 = .ok (.lastore, 1)) rfl
set_option maxRecDepth 100000 in
theorem h_add_8 (hC : SndC g HB l MM call) : Snd g HB l call cL_add 3 yL_add.cls yL_add.name 8 (lf (q_goto 14)) := lf_ok (p_goto (by decide +kernel : decode cL_add 8 = .ok (.goto 6, 3)) (by decide))
set_option maxRecDepth 100000 in
theorem h_add_14 (hC : SndC g HB l MM call) : Snd g HB l call cL_add 3 yL_add.cls yL_add.name 14 (lf (q_push (.inl 0) 15)) := lf_ok (p_iconst (by decide +kernel : decode cL_add 14 = .ok (.iconst 0, 1)) (by decide +kernel) rfl)
set_option maxRecDepth 100000 in
theorem h_add_ok (hC : SndC g HB l MM call) : ∀ x ∈ PH_add, Snd g HB l call cL_add 3 yL_add.cls yL_add.name x.1 x.2 := faz (h_add_0 hC) (faz (h_add_1 hC) (faz (h_add_2 hC) (faz (h_add_3 hC) (faz (h_add_6 hC) (faz (h_add_7 hC) (faz (h_add_8 hC) (faz (h_add_14 hC) (fnz))))))))
set_option maxRecDepth 100000 in
theorem h_search_0 (hC : SndC g HB l MM call) : Snd g HB l call cL_search 3 yL_search.cls yL_search.name 0 (lf (q_load isR 1 1)) := lf_ok (p_aload_n (by decide +kernel : decode cL_search 0 = .ok (.aload_n 1, 1)) rfl rfl)
set_option maxRecDepth 100000 in
theorem h_search_1 (hC : SndC g HB l MM call) : Snd g HB l call cL_search 3 yL_search.cls yL_search.name 1 (lf (q_push (.inl 0) 2)) := lf_ok (p_iconst (by decide +kernel : decode cL_search 1 = .ok (.iconst 0, 1)) (by decide +kernel) rfl)
set_option maxRecDepth 100000 in
theorem h_search_2 (hC : SndC g HB l MM call) : Snd g HB l call cL_search 3 yL_search.cls yL_search.name 2 (lf (q_load isR 0 3)) := lf_ok (p_aload_n (by decide +kernel : decode cL_search 2 = .ok (.aload_n 0, 1)) rfl rfl)
set_option maxRecDepth 100000 in
theorem h_search_3 (hC : SndC g HB l MM call) : Snd g HB l call cL_search 3 yL_search.cls yL_search.name 3 (s_cV 9 75 0 22 6) := c_V (C := RX11) (T := TX11) (N := 17) (ci := 9) rfl hC (M := MM) (id := 75) (d := D_75) rfl mok_75 rfl rfl (tin 5 238 (by decide +kernel) rfl) (tin 5 239 (by decide +kernel) rfl) (tin 6 0 (by decide +kernel) rfl) (tin 1 1 (by decide +kernel) rfl) (by decide +kernel : decode cL_search 3 = .ok (.invokevirtual 27, 3)) rfl
set_option maxRecDepth 100000 in
theorem h_search_6 (hC : SndC g HB l MM call) : Snd g HB l call cL_search 3 yL_search.cls yL_search.name 6 (lf (q_un f_i2l 7)) := lf_ok (p_i2l (by decide +kernel : decode cL_search 6 = .ok (.i2l, 1)) rfl)
set_option maxRecDepth 100000 in
theorem h_search_7 (hC : SndC g HB l MM call) : Snd g HB l call cL_search 3 yL_search.cls yL_search.name 7 (s_ast (fun t => Nat.beq t 3) cvL 8) := h_last (by decide +kernel : decode cL_search 7 = .ok (.lastore, 1)) rfl
set_option maxRecDepth 100000 in
theorem h_search_8 (hC : SndC g HB l MM call) : Snd g HB l call cL_search 3 yL_search.cls yL_search.name 8 (lf (q_goto 14)) := lf_ok (p_goto (by decide +kernel : decode cL_search 8 = .ok (.goto 6, 3)) (by decide))
set_option maxRecDepth 100000 in
theorem h_search_14 (hC : SndC g HB l MM call) : Snd g HB l call cL_search 3 yL_search.cls yL_search.name 14 (lf (q_push (.inl 0) 15)) := lf_ok (p_iconst (by decide +kernel : decode cL_search 14 = .ok (.iconst 0, 1)) (by decide +kernel) rfl)
set_option maxRecDepth 100000 in
theorem h_search_ok (hC : SndC g HB l MM call) : ∀ x ∈ PH_search, Snd g HB l call cL_search 3 yL_search.cls yL_search.name x.1 x.2 := faz (h_search_0 hC) (faz (h_search_1 hC) (faz (h_search_2 hC) (faz (h_search_3 hC) (faz (h_search_6 hC) (faz (h_search_7 hC) (faz (h_search_8 hC) (faz (h_search_14 hC) (fnz))))))))
set_option maxRecDepth 100000 in
theorem h_remove_0 (hC : SndC g HB l MM call) : Snd g HB l call cL_remove 3 yL_remove.cls yL_remove.name 0 (lf (q_load isR 0 1)) := lf_ok (p_aload_n (by decide +kernel : decode cL_remove 0 = .ok (.aload_n 0, 1)) rfl rfl)
set_option maxRecDepth 100000 in
theorem h_remove_1 (hC : SndC g HB l MM call) : Snd g HB l call cL_remove 3 yL_remove.cls yL_remove.name 1 (lf (q_load isI 1 2)) := lf_ok (p_iload_n (by decide +kernel : decode cL_remove 1 = .ok (.iload_n 1, 1)) rfl rfl)
set_option maxRecDepth 100000 in
theorem h_remove_ok (hC : SndC g HB l MM call) : ∀ x ∈ PH_remove, Snd g HB l call cL_remove 3 yL_remove.cls yL_remove.name x.1 x.2 := faz (h_remove_0 hC) (faz (h_remove_1 hC) (fnz))
set_option maxRecDepth 100000 in
theorem h_tag_0 (hC : SndC g HB l MM call) : Snd g HB l call cL_tag 5 yL_tag.cls yL_tag.name 0 (lf (q_load isR 3 1)) := lf_ok (p_aload_n (by decide +kernel : decode cL_tag 0 = .ok (.aload_n 3, 1)) rfl rfl)
set_option maxRecDepth 100000 in
theorem h_tag_1 (hC : SndC g HB l MM call) : Snd g HB l call cL_tag 5 yL_tag.cls yL_tag.name 1 (lf (q_push (.inl 0) 2)) := lf_ok (p_iconst (by decide +kernel : decode cL_tag 1 = .ok (.iconst 0, 1)) (by decide +kernel) rfl)
set_option maxRecDepth 100000 in
theorem h_tag_2 (hC : SndC g HB l MM call) : Snd g HB l call cL_tag 5 yL_tag.cls yL_tag.name 2 (lf (q_load isR 0 3)) := lf_ok (p_aload_n (by decide +kernel : decode cL_tag 2 = .ok (.aload_n 0, 1)) rfl rfl)
set_option maxRecDepth 100000 in
theorem h_tag_3 (hC : SndC g HB l MM call) : Snd g HB l call cL_tag 5 yL_tag.cls yL_tag.name 3 (lf (q_load isI 1 4)) := lf_ok (p_iload_n (by decide +kernel : decode cL_tag 3 = .ok (.iload_n 1, 1)) rfl rfl)
set_option maxRecDepth 100000 in
theorem h_tag_4 (hC : SndC g HB l MM call) : Snd g HB l call cL_tag 5 yL_tag.cls yL_tag.name 4 (lf (q_load isI 2 5)) := lf_ok (p_iload_n (by decide +kernel : decode cL_tag 4 = .ok (.iload_n 2, 1)) rfl rfl)
set_option maxRecDepth 100000 in
theorem h_tag_ok (hC : SndC g HB l MM call) : ∀ x ∈ PH_tag, Snd g HB l call cL_tag 5 yL_tag.cls yL_tag.name x.1 x.2 := faz (h_tag_0 hC) (faz (h_tag_1 hC) (faz (h_tag_2 hC) (faz (h_tag_3 hC) (faz (h_tag_4 hC) (fnz)))))
end PRX
