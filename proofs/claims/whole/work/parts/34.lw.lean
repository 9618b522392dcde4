theorem tw_ic_6 : Int32.ofInt 6 = 6 := by decide
theorem tw_bi_31 : (Int8.ofInt 31).toInt32 = 31 := by decide
theorem tw_ti_31 : (31 : Int32).toInt = 31 := by decide
abbrev lc_1 : List (Nat × Jvm.ClassFile.Instr × Nat) := [(0, .new 7, 3), (3, .dup, 1), (4, .invokespecial 9, 3), (7, .astore_n 1, 1), (8, .new 10, 3), (11, .dup, 1), (12, .invokespecial 12, 3), (15, .astore_n 2, 1), (16, .iconst 0, 1), (17, .istore_n 3, 1), (18, .iload_n 3, 1), (19, .aload_n 0, 1), (20, .arraylength, 1), (21, .bipush 6, 2), (23, .isub, 1), (24, .if_icmp .gt 529, 3), (27, .aload_n 0, 1), (28, .iload_n 3, 1), (29, .iaload, 1), (30, .bipush 31, 2), (32, .iand, 1), (33, .tableswitch 514 0 16 #[83, 146, 159, 202, 235, 258, 281, 294, 317, 340, 363, 376, 399, 422, 455, 468, 501], 83), (116, .aload_n 1, 1), (117, .aload_n 0, 1), (118, .iload_n 3, 1), (119, .iconst 1, 1), (120, .iadd, 1), (121, .iaload, 1), (122, .aload_n 0, 1), (123, .iload_n 3, 1), (124, .iconst 2, 1), (125, .iadd, 1), (126, .iaload, 1), (127, .aload_n 0, 1), (128, .iload_n 3, 1), (129, .iconst 3, 1), (130, .iadd, 1), (131, .iaload, 1), (132, .aload_n 0, 1), (133, .iload_n 3, 1), (134, .iconst 4, 1), (135, .iadd, 1), (136, .iaload, 1), (137, .aload_n 0, 1), (138, .iload_n 3, 1)]
theorem ld_1 : lc_1.all (fun q => decide (decode code q.1 = .ok q.2)) = true := by decide +kernel
abbrev lc_2 : List (Nat × Jvm.ClassFile.Instr × Nat) := [(139, .iconst 5, 1), (140, .iadd, 1), (141, .iaload, 1), (142, .invokevirtual 13, 3), (145, .aload_n 2, 1), (146, .aload_n 0, 1), (147, .iload_n 3, 1), (148, .iconst 1, 1), (149, .iadd, 1), (150, .iaload, 1), (151, .aload_n 0, 1), (152, .iload_n 3, 1), (153, .iconst 2, 1), (154, .iadd, 1), (155, .iaload, 1), (156, .aload_n 0, 1), (157, .iload_n 3, 1), (158, .iconst 3, 1), (159, .iadd, 1), (160, .iaload, 1), (161, .aload_n 0, 1), (162, .iload_n 3, 1), (163, .iconst 4, 1), (164, .iadd, 1), (165, .iaload, 1), (166, .aload_n 0, 1), (167, .iload_n 3, 1), (168, .iconst 5, 1), (169, .iadd, 1), (170, .iaload, 1), (171, .invokevirtual 17, 3), (174, .if_icmp .eq 373, 3), (177, .iconst 0, 1), (178, .ireturn, 1), (179, .aload_n 1, 1), (180, .invokevirtual 18, 3), (183, .aload_n 2, 1), (184, .invokevirtual 22, 3), (187, .if_icmp .eq 360, 3), (190, .iconst 0, 1), (191, .ireturn, 1), (192, .aload_n 1, 1), (193, .aload_n 0, 1), (194, .iload_n 3, 1), (195, .iconst 1, 1)]
theorem ld_2 : lc_2.all (fun q => decide (decode code q.1 = .ok q.2)) = true := by decide +kernel
abbrev lc_3 : List (Nat × Jvm.ClassFile.Instr × Nat) := [(196, .iadd, 1), (197, .iaload, 1), (198, .aload_n 0, 1), (199, .iload_n 3, 1), (200, .iconst 2, 1), (201, .iadd, 1), (202, .iaload, 1), (203, .aload_n 0, 1), (204, .iload_n 3, 1), (205, .iconst 3, 1), (206, .iadd, 1), (207, .iaload, 1), (208, .invokevirtual 23, 3), (211, .aload_n 2, 1), (212, .aload_n 0, 1), (213, .iload_n 3, 1), (214, .iconst 1, 1), (215, .iadd, 1), (216, .iaload, 1), (217, .aload_n 0, 1), (218, .iload_n 3, 1), (219, .iconst 2, 1), (220, .iadd, 1), (221, .iaload, 1), (222, .aload_n 0, 1), (223, .iload_n 3, 1), (224, .iconst 3, 1), (225, .iadd, 1), (226, .iaload, 1), (227, .invokevirtual 27, 3), (230, .if_icmp .eq 317, 3), (233, .iconst 0, 1), (234, .ireturn, 1), (235, .aload_n 1, 1), (236, .aload_n 0, 1), (237, .iload_n 3, 1), (238, .iconst 1, 1), (239, .iadd, 1), (240, .iaload, 1), (241, .aload_n 0, 1), (242, .iload_n 3, 1), (243, .iconst 2, 1), (244, .iadd, 1), (245, .iaload, 1), (246, .invokevirtual 28, 3)]
theorem ld_3 : lc_3.all (fun q => decide (decode code q.1 = .ok q.2)) = true := by decide +kernel
abbrev lc_4 : List (Nat × Jvm.ClassFile.Instr × Nat) := [(249, .aload_n 2, 1), (250, .aload_n 0, 1), (251, .iload_n 3, 1), (252, .iconst 1, 1), (253, .iadd, 1), (254, .iaload, 1), (255, .aload_n 0, 1), (256, .iload_n 3, 1), (257, .iconst 2, 1), (258, .iadd, 1), (259, .iaload, 1), (260, .invokevirtual 32, 3), (263, .if_icmp .eq 284, 3), (266, .iconst 0, 1), (267, .ireturn, 1), (268, .aload_n 1, 1), (269, .aload_n 0, 1), (270, .iload_n 3, 1), (271, .iconst 1, 1), (272, .iadd, 1), (273, .iaload, 1), (274, .invokevirtual 33, 3), (277, .aload_n 2, 1), (278, .aload_n 0, 1), (279, .iload_n 3, 1), (280, .iconst 1, 1), (281, .iadd, 1), (282, .iaload, 1), (283, .invokevirtual 37, 3), (286, .if_icmp .eq 261, 3), (289, .iconst 0, 1), (290, .ireturn, 1), (291, .aload_n 1, 1), (292, .aload_n 0, 1), (293, .iload_n 3, 1), (294, .iconst 1, 1), (295, .iadd, 1), (296, .iaload, 1), (297, .invokevirtual 38, 3), (300, .aload_n 2, 1), (301, .aload_n 0, 1), (302, .iload_n 3, 1), (303, .iconst 1, 1), (304, .iadd, 1), (305, .iaload, 1)]
theorem ld_4 : lc_4.all (fun q => decide (decode code q.1 = .ok q.2)) = true := by decide +kernel
abbrev lc_5 : List (Nat × Jvm.ClassFile.Instr × Nat) := [(306, .invokevirtual 42, 3), (309, .if_icmp .eq 238, 3), (312, .iconst 0, 1), (313, .ireturn, 1), (314, .aload_n 1, 1), (315, .invokevirtual 43, 3), (318, .aload_n 2, 1), (319, .invokevirtual 46, 3), (322, .if_icmp .eq 225, 3), (325, .iconst 0, 1), (326, .ireturn, 1), (327, .aload_n 1, 1), (328, .aload_n 0, 1), (329, .iload_n 3, 1), (330, .iconst 1, 1), (331, .iadd, 1), (332, .iaload, 1), (333, .invokevirtual 47, 3), (336, .aload_n 2, 1), (337, .aload_n 0, 1), (338, .iload_n 3, 1), (339, .iconst 1, 1), (340, .iadd, 1), (341, .iaload, 1), (342, .invokevirtual 50, 3), (345, .if_icmp .eq 202, 3), (348, .iconst 0, 1), (349, .ireturn, 1), (350, .aload_n 1, 1), (351, .aload_n 0, 1), (352, .iload_n 3, 1), (353, .iconst 1, 1), (354, .iadd, 1), (355, .iaload, 1), (356, .invokevirtual 51, 3), (359, .aload_n 2, 1), (360, .aload_n 0, 1), (361, .iload_n 3, 1), (362, .iconst 1, 1), (363, .iadd, 1), (364, .iaload, 1), (365, .invokevirtual 54, 3), (368, .if_icmp .eq 179, 3), (371, .iconst 0, 1), (372, .ireturn, 1)]
theorem ld_5 : lc_5.all (fun q => decide (decode code q.1 = .ok q.2)) = true := by decide +kernel
abbrev lc_6 : List (Nat × Jvm.ClassFile.Instr × Nat) := [(373, .aload_n 1, 1), (374, .aload_n 0, 1), (375, .iload_n 3, 1), (376, .iconst 1, 1), (377, .iadd, 1), (378, .iaload, 1), (379, .invokevirtual 55, 3), (382, .aload_n 2, 1), (383, .aload_n 0, 1), (384, .iload_n 3, 1), (385, .iconst 1, 1), (386, .iadd, 1), (387, .iaload, 1), (388, .invokevirtual 58, 3), (391, .if_icmp .eq 156, 3), (394, .iconst 0, 1), (395, .ireturn, 1), (396, .aload_n 1, 1), (397, .invokevirtual 59, 3), (400, .aload_n 2, 1), (401, .invokevirtual 62, 3), (404, .if_icmp .eq 143, 3), (407, .iconst 0, 1), (408, .ireturn, 1), (409, .aload_n 1, 1), (410, .aload_n 0, 1), (411, .iload_n 3, 1), (412, .iconst 1, 1), (413, .iadd, 1), (414, .iaload, 1), (415, .invokevirtual 63, 3), (418, .aload_n 2, 1), (419, .aload_n 0, 1), (420, .iload_n 3, 1), (421, .iconst 1, 1), (422, .iadd, 1), (423, .iaload, 1), (424, .invokevirtual 66, 3), (427, .if_icmp .eq 120, 3), (430, .iconst 0, 1), (431, .ireturn, 1), (432, .aload_n 1, 1), (433, .aload_n 0, 1), (434, .iload_n 3, 1), (435, .iconst 1, 1)]
theorem ld_6 : lc_6.all (fun q => decide (decode code q.1 = .ok q.2)) = true := by decide +kernel
abbrev lc_7 : List (Nat × Jvm.ClassFile.Instr × Nat) := [(436, .iadd, 1), (437, .iaload, 1), (438, .invokevirtual 67, 3), (441, .aload_n 2, 1), (442, .aload_n 0, 1), (443, .iload_n 3, 1), (444, .iconst 1, 1), (445, .iadd, 1), (446, .iaload, 1), (447, .invokevirtual 70, 3), (450, .if_icmp .eq 97, 3), (453, .iconst 0, 1), (454, .ireturn, 1), (455, .aload_n 1, 1), (456, .aload_n 0, 1), (457, .iload_n 3, 1), (458, .iconst 1, 1), (459, .iadd, 1), (460, .iaload, 1), (461, .aload_n 0, 1), (462, .iload_n 3, 1), (463, .iconst 2, 1), (464, .iadd, 1), (465, .iaload, 1), (466, .invokevirtual 71, 3), (469, .aload_n 2, 1), (470, .aload_n 0, 1), (471, .iload_n 3, 1), (472, .iconst 1, 1), (473, .iadd, 1), (474, .iaload, 1), (475, .aload_n 0, 1), (476, .iload_n 3, 1), (477, .iconst 2, 1), (478, .iadd, 1), (479, .iaload, 1), (480, .invokevirtual 74, 3), (483, .if_icmp .eq 64, 3), (486, .iconst 0, 1), (487, .ireturn, 1), (488, .aload_n 1, 1), (489, .invokevirtual 75, 3), (492, .aload_n 2, 1), (493, .invokevirtual 78, 3), (496, .if_icmp .eq 51, 3)]
theorem ld_7 : lc_7.all (fun q => decide (decode code q.1 = .ok q.2)) = true := by decide +kernel
abbrev lc_8 : List (Nat × Jvm.ClassFile.Instr × Nat) := [(499, .iconst 0, 1), (500, .ireturn, 1), (501, .aload_n 1, 1), (502, .aload_n 0, 1), (503, .iload_n 3, 1), (504, .iconst 1, 1), (505, .iadd, 1), (506, .iaload, 1), (507, .aload_n 0, 1), (508, .iload_n 3, 1), (509, .iconst 2, 1), (510, .iadd, 1), (511, .iaload, 1), (512, .invokevirtual 79, 3), (515, .aload_n 2, 1), (516, .aload_n 0, 1), (517, .iload_n 3, 1), (518, .iconst 1, 1), (519, .iadd, 1), (520, .iaload, 1), (521, .aload_n 0, 1), (522, .iload_n 3, 1), (523, .iconst 2, 1), (524, .iadd, 1), (525, .iaload, 1), (526, .invokevirtual 82, 3), (529, .if_icmp .eq 18, 3), (532, .iconst 0, 1), (533, .ireturn, 1), (534, .aload_n 1, 1), (535, .invokevirtual 83, 3), (538, .aload_n 2, 1), (539, .invokevirtual 86, 3), (542, .if_icmp .eq 5, 3), (545, .iconst 0, 1), (546, .ireturn, 1), (547, .iinc 3 6, 3), (550, .goto (-532), 3), (553, .iconst 1, 1), (554, .ireturn, 1)]
theorem ld_8 : lc_8.all (fun q => decide (decode code q.1 = .ok q.2)) = true := by decide +kernel
def j_LW_law : tw_J := (⟨"TaskWeaverLaw", "law", "([I)Z"⟩, code, 4, some .boolean, lc_1 ++ lc_2 ++ lc_3 ++ lc_4 ++ lc_5 ++ lc_6 ++ lc_7 ++ lc_8)
theorem dc_LW_law : tw_dec j_LW_law := tw_dec_of (by
  show (lc_1 ++ lc_2 ++ lc_3 ++ lc_4 ++ lc_5 ++ lc_6 ++ lc_7 ++ lc_8).all (fun q => decide (decode code q.1 = .ok q.2)) = true
  simp only [List.all_append, ld_1, ld_2, ld_3, ld_4, ld_5, ld_6, ld_7, ld_8, Bool.and_self])
set_option maxRecDepth 8000 in
set_option maxHeartbeats 4000000 in
theorem law_loop {d L : Nat} {xs : Nat → Int32} (hL : L ≤ 3072) : ∀ (n i : Nat) (M : tw_M) (iv : Int32), iv.toInt = (i : Int) → i ≤ 4000 → L < i + 6 * (n + 1) → IV M → tw_T (some (L, xs)) (d + 43) j_LW_law M 18 [some (.inr 116), some (.inr 0), some (.inr 88), some (.inl iv)] [] (fun r _ => r = some 1) := by
  intro n
  induction n with
  | zero =>
    intro i M iv hi hb hn hIV
    have hl : (Int32.ofNat L).toInt = (L : Int) := tw_toN (by omega)
    have z0 := tw_ti_0
    have z1 := tw_ti_1
    have z2 := tw_ti_2
    have z3 := tw_ti_3
    have z4 := tw_ti_4
    have z5 := tw_ti_5
    have z6 := tw_ti_6
    have z31 := tw_ti_31
    refine tw_iload_n (pc := 18) rfl rfl ?_
    refine tw_aload_n (pc := 19) rfl rfl ?_
    refine tw_slen (pc := 20) rfl ?_
    refine tw_bipush (pc := 21) rfl tw_bi_6 ?_
    refine tw_isubF (pc := 23) rfl ⟨by omega, by omega⟩ (fun e1 => ?_)
    refine tw_icmp_gt (pc := 24) (tgt := 553) rfl rfl (fun c2 => ?_) (fun c2 => absurd c2 (by omega))
    refine tw_iconst (pc := 553) rfl tw_ic_1 ?_
    refine tw_ireturn (pc := 554) rfl rfl ?_
    rfl
  | succ n ih =>
    intro i M iv hi hb hn hIV
    have hl : (Int32.ofNat L).toInt = (L : Int) := tw_toN (by omega)
    by_cases hgo : L < i + 6
    · skip
      have z0 := tw_ti_0
      have z1 := tw_ti_1
      have z2 := tw_ti_2
      have z3 := tw_ti_3
      have z4 := tw_ti_4
      have z5 := tw_ti_5
      have z6 := tw_ti_6
      have z31 := tw_ti_31
      refine tw_iload_n (pc := 18) rfl rfl ?_
      refine tw_aload_n (pc := 19) rfl rfl ?_
      refine tw_slen (pc := 20) rfl ?_
      refine tw_bipush (pc := 21) rfl tw_bi_6 ?_
      refine tw_isubF (pc := 23) rfl ⟨by omega, by omega⟩ (fun e1 => ?_)
      refine tw_icmp_gt (pc := 24) (tgt := 553) rfl rfl (fun c2 => ?_) (fun c2 => absurd c2 (by omega))
      refine tw_iconst (pc := 553) rfl tw_ic_1 ?_
      refine tw_ireturn (pc := 554) rfl rfl ?_
      rfl
    · skip
      have z0 := tw_ti_0
      have z1 := tw_ti_1
      have z2 := tw_ti_2
      have z3 := tw_ti_3
      have z4 := tw_ti_4
      have z5 := tw_ti_5
      have z6 := tw_ti_6
      have z31 := tw_ti_31
      refine tw_iload_n (pc := 18) rfl rfl ?_
      refine tw_aload_n (pc := 19) rfl rfl ?_
      refine tw_slen (pc := 20) rfl ?_
      refine tw_bipush (pc := 21) rfl tw_bi_6 ?_
      refine tw_isubF (pc := 23) rfl ⟨by omega, by omega⟩ (fun e1 => ?_)
      refine tw_icmp_gt (pc := 24) (tgt := 553) rfl rfl (fun c2 => absurd c2 (by omega)) (fun c2 => ?_)
      refine tw_aload_n (pc := 27) rfl rfl ?_
      refine tw_iload_n (pc := 28) rfl rfl ?_
      refine tw_sld (pc := 29) rfl ⟨by omega, by omega⟩ ?_
      refine tw_bipush (pc := 30) rfl tw_bi_31 ?_
      refine tw_iand (pc := 32) rfl ?_
      by_cases c3 : ((xs iv.toInt.toNat) &&& 31).toInt = 0
      · refine tw_tabIn (pc := 33) (tgt := 116) 0 rfl (by omega) (by decide) rfl rfl ?_
        refine tw_aload_n (pc := 116) rfl rfl ?_
        refine tw_aload_n (pc := 117) rfl rfl ?_
        refine tw_iload_n (pc := 118) rfl rfl ?_
        refine tw_iconst (pc := 119) rfl tw_ic_1 ?_
        refine tw_iaddF (pc := 120) rfl ⟨by omega, by omega⟩ (fun e4 => ?_)
        refine tw_sld (pc := 121) rfl ⟨by omega, by omega⟩ ?_
        refine tw_aload_n (pc := 122) rfl rfl ?_
        refine tw_iload_n (pc := 123) rfl rfl ?_
        refine tw_iconst (pc := 124) rfl tw_ic_2 ?_
        refine tw_iaddF (pc := 125) rfl ⟨by omega, by omega⟩ (fun e5 => ?_)
        refine tw_sld (pc := 126) rfl ⟨by omega, by omega⟩ ?_
        refine tw_aload_n (pc := 127) rfl rfl ?_
        refine tw_iload_n (pc := 128) rfl rfl ?_
        refine tw_iconst (pc := 129) rfl tw_ic_3 ?_
        refine tw_iaddF (pc := 130) rfl ⟨by omega, by omega⟩ (fun e6 => ?_)
        refine tw_sld (pc := 131) rfl ⟨by omega, by omega⟩ ?_
        refine tw_aload_n (pc := 132) rfl rfl ?_
        refine tw_iload_n (pc := 133) rfl rfl ?_
        refine tw_iconst (pc := 134) rfl tw_ic_4 ?_
        refine tw_iaddF (pc := 135) rfl ⟨by omega, by omega⟩ (fun e7 => ?_)
        refine tw_sld (pc := 136) rfl ⟨by omega, by omega⟩ ?_
        refine tw_aload_n (pc := 137) rfl rfl ?_
        refine tw_iload_n (pc := 138) rfl rfl ?_
        refine tw_iconst (pc := 139) rfl tw_ic_5 ?_
        refine tw_iaddF (pc := 140) rfl ⟨by omega, by omega⟩ (fun e8 => ?_)
        refine tw_sld (pc := 141) rfl ⟨by omega, by omega⟩ ?_
        refine tw_inv5 (pc := 142) rfl lk_LW_13 (Nat.le_of_ble_eq_true rfl) rfl rfl (tw_C_mono (op_primitive hIV) (fun r1 M1 hh => ?_))
        obtain ⟨v, rfl, h2⟩ := hh
        refine tw_aload_n (pc := 145) rfl rfl ?_
        refine tw_aload_n (pc := 146) rfl rfl ?_
        refine tw_iload_n (pc := 147) rfl rfl ?_
        refine tw_iconst (pc := 148) rfl tw_ic_1 ?_
        refine tw_iaddF (pc := 149) rfl ⟨by omega, by omega⟩ (fun e10 => ?_)
        refine tw_sld (pc := 150) rfl ⟨by omega, by omega⟩ ?_
        refine tw_aload_n (pc := 151) rfl rfl ?_
        refine tw_iload_n (pc := 152) rfl rfl ?_
        refine tw_iconst (pc := 153) rfl tw_ic_2 ?_
        refine tw_iaddF (pc := 154) rfl ⟨by omega, by omega⟩ (fun e11 => ?_)
        refine tw_sld (pc := 155) rfl ⟨by omega, by omega⟩ ?_
        refine tw_aload_n (pc := 156) rfl rfl ?_
        refine tw_iload_n (pc := 157) rfl rfl ?_
        refine tw_iconst (pc := 158) rfl tw_ic_3 ?_
        refine tw_iaddF (pc := 159) rfl ⟨by omega, by omega⟩ (fun e12 => ?_)
        refine tw_sld (pc := 160) rfl ⟨by omega, by omega⟩ ?_
        refine tw_aload_n (pc := 161) rfl rfl ?_
        refine tw_iload_n (pc := 162) rfl rfl ?_
        refine tw_iconst (pc := 163) rfl tw_ic_4 ?_
        refine tw_iaddF (pc := 164) rfl ⟨by omega, by omega⟩ (fun e13 => ?_)
        refine tw_sld (pc := 165) rfl ⟨by omega, by omega⟩ ?_
        refine tw_aload_n (pc := 166) rfl rfl ?_
        refine tw_iload_n (pc := 167) rfl rfl ?_
        refine tw_iconst (pc := 168) rfl tw_ic_5 ?_
        refine tw_iaddF (pc := 169) rfl ⟨by omega, by omega⟩ (fun e14 => ?_)
        refine tw_sld (pc := 170) rfl ⟨by omega, by omega⟩ ?_
        refine tw_inv5 (pc := 171) rfl lk_LW_17 (Nat.le_of_ble_eq_true rfl) rfl rfl (tw_C_mono h2 (fun r2 M2 hh2 => ?_))
        obtain ⟨rfl, hIV2⟩ := hh2
        refine tw_icmp_eq (pc := 174) (tgt := 547) rfl rfl (fun c16 => ?_) (fun c16 => absurd rfl c16.1)
        refine tw_iincF (pc := 547) rfl rfl tw_ic_6 (Nat.le_of_ble_eq_true rfl) ⟨by omega, by omega⟩ (fun e17 => ?_)
        refine tw_goto (pc := 550) (tgt := 18) rfl rfl ?_
        exact ih (i + 6) M2 _ (by omega) (by omega) (by omega) hIV2
      by_cases c18 : ((xs iv.toInt.toNat) &&& 31).toInt = 1
      · refine tw_tabIn (pc := 33) (tgt := 179) 1 rfl (by omega) (by decide) rfl rfl ?_
        refine tw_aload_n (pc := 179) rfl rfl ?_
        refine tw_inv0 (pc := 180) rfl lk_LW_18 (Nat.le_of_ble_eq_true rfl) rfl rfl (tw_C_mono (op_compound hIV) (fun r1 M1 hh => ?_))
        obtain ⟨v, rfl, h2⟩ := hh
        refine tw_aload_n (pc := 183) rfl rfl ?_
        refine tw_inv0 (pc := 184) rfl lk_LW_22 (Nat.le_of_ble_eq_true rfl) rfl rfl (tw_C_mono h2 (fun r2 M2 hh2 => ?_))
        obtain ⟨rfl, hIV2⟩ := hh2
        refine tw_icmp_eq (pc := 187) (tgt := 547) rfl rfl (fun c21 => ?_) (fun c21 => absurd rfl c21.1)
        refine tw_iincF (pc := 547) rfl rfl tw_ic_6 (Nat.le_of_ble_eq_true rfl) ⟨by omega, by omega⟩ (fun e22 => ?_)
        refine tw_goto (pc := 550) (tgt := 18) rfl rfl ?_
        exact ih (i + 6) M2 _ (by omega) (by omega) (by omega) hIV2
      by_cases c23 : ((xs iv.toInt.toNat) &&& 31).toInt = 2
      · refine tw_tabIn (pc := 33) (tgt := 192) 2 rfl (by omega) (by decide) rfl rfl ?_
        refine tw_aload_n (pc := 192) rfl rfl ?_
        refine tw_aload_n (pc := 193) rfl rfl ?_
        refine tw_iload_n (pc := 194) rfl rfl ?_
        refine tw_iconst (pc := 195) rfl tw_ic_1 ?_
        refine tw_iaddF (pc := 196) rfl ⟨by omega, by omega⟩ (fun e24 => ?_)
        refine tw_sld (pc := 197) rfl ⟨by omega, by omega⟩ ?_
        refine tw_aload_n (pc := 198) rfl rfl ?_
        refine tw_iload_n (pc := 199) rfl rfl ?_
        refine tw_iconst (pc := 200) rfl tw_ic_2 ?_
        refine tw_iaddF (pc := 201) rfl ⟨by omega, by omega⟩ (fun e25 => ?_)
        refine tw_sld (pc := 202) rfl ⟨by omega, by omega⟩ ?_
        refine tw_aload_n (pc := 203) rfl rfl ?_
        refine tw_iload_n (pc := 204) rfl rfl ?_
        refine tw_iconst (pc := 205) rfl tw_ic_3 ?_
        refine tw_iaddF (pc := 206) rfl ⟨by omega, by omega⟩ (fun e26 => ?_)
        refine tw_sld (pc := 207) rfl ⟨by omega, by omega⟩ ?_
        refine tw_inv3 (pc := 208) rfl lk_LW_23 (Nat.le_of_ble_eq_true rfl) rfl rfl (tw_C_mono (op_method hIV) (fun r1 M1 hh => ?_))
        obtain ⟨v, rfl, h2⟩ := hh
        refine tw_aload_n (pc := 211) rfl rfl ?_
        refine tw_aload_n (pc := 212) rfl rfl ?_
        refine tw_iload_n (pc := 213) rfl rfl ?_
        refine tw_iconst (pc := 214) rfl tw_ic_1 ?_
        refine tw_iaddF (pc := 215) rfl ⟨by omega, by omega⟩ (fun e28 => ?_)
        refine tw_sld (pc := 216) rfl ⟨by omega, by omega⟩ ?_
        refine tw_aload_n (pc := 217) rfl rfl ?_
        refine tw_iload_n (pc := 218) rfl rfl ?_
        refine tw_iconst (pc := 219) rfl tw_ic_2 ?_
        refine tw_iaddF (pc := 220) rfl ⟨by omega, by omega⟩ (fun e29 => ?_)
        refine tw_sld (pc := 221) rfl ⟨by omega, by omega⟩ ?_
        refine tw_aload_n (pc := 222) rfl rfl ?_
        refine tw_iload_n (pc := 223) rfl rfl ?_
        refine tw_iconst (pc := 224) rfl tw_ic_3 ?_
        refine tw_iaddF (pc := 225) rfl ⟨by omega, by omega⟩ (fun e30 => ?_)
        refine tw_sld (pc := 226) rfl ⟨by omega, by omega⟩ ?_
        refine tw_inv3 (pc := 227) rfl lk_LW_27 (Nat.le_of_ble_eq_true rfl) rfl rfl (tw_C_mono h2 (fun r2 M2 hh2 => ?_))
        obtain ⟨rfl, hIV2⟩ := hh2
        refine tw_icmp_eq (pc := 230) (tgt := 547) rfl rfl (fun c32 => ?_) (fun c32 => absurd rfl c32.1)
        refine tw_iincF (pc := 547) rfl rfl tw_ic_6 (Nat.le_of_ble_eq_true rfl) ⟨by omega, by omega⟩ (fun e33 => ?_)
        refine tw_goto (pc := 550) (tgt := 18) rfl rfl ?_
        exact ih (i + 6) M2 _ (by omega) (by omega) (by omega) hIV2
      by_cases c34 : ((xs iv.toInt.toNat) &&& 31).toInt = 3
      · refine tw_tabIn (pc := 33) (tgt := 235) 3 rfl (by omega) (by decide) rfl rfl ?_
        refine tw_aload_n (pc := 235) rfl rfl ?_
        refine tw_aload_n (pc := 236) rfl rfl ?_
        refine tw_iload_n (pc := 237) rfl rfl ?_
        refine tw_iconst (pc := 238) rfl tw_ic_1 ?_
        refine tw_iaddF (pc := 239) rfl ⟨by omega, by omega⟩ (fun e35 => ?_)
        refine tw_sld (pc := 240) rfl ⟨by omega, by omega⟩ ?_
        refine tw_aload_n (pc := 241) rfl rfl ?_
        refine tw_iload_n (pc := 242) rfl rfl ?_
        refine tw_iconst (pc := 243) rfl tw_ic_2 ?_
        refine tw_iaddF (pc := 244) rfl ⟨by omega, by omega⟩ (fun e36 => ?_)
        refine tw_sld (pc := 245) rfl ⟨by omega, by omega⟩ ?_
        refine tw_inv2 (pc := 246) rfl lk_LW_28 (Nat.le_of_ble_eq_true rfl) rfl rfl (tw_C_mono (op_part hIV) (fun r1 M1 hh => ?_))
        obtain ⟨v, rfl, h2⟩ := hh
        refine tw_aload_n (pc := 249) rfl rfl ?_
        refine tw_aload_n (pc := 250) rfl rfl ?_
        refine tw_iload_n (pc := 251) rfl rfl ?_
        refine tw_iconst (pc := 252) rfl tw_ic_1 ?_
        refine tw_iaddF (pc := 253) rfl ⟨by omega, by omega⟩ (fun e38 => ?_)
        refine tw_sld (pc := 254) rfl ⟨by omega, by omega⟩ ?_
        refine tw_aload_n (pc := 255) rfl rfl ?_
        refine tw_iload_n (pc := 256) rfl rfl ?_
        refine tw_iconst (pc := 257) rfl tw_ic_2 ?_
        refine tw_iaddF (pc := 258) rfl ⟨by omega, by omega⟩ (fun e39 => ?_)
        refine tw_sld (pc := 259) rfl ⟨by omega, by omega⟩ ?_
        refine tw_inv2 (pc := 260) rfl lk_LW_32 (Nat.le_of_ble_eq_true rfl) rfl rfl (tw_C_mono h2 (fun r2 M2 hh2 => ?_))
        obtain ⟨rfl, hIV2⟩ := hh2
        refine tw_icmp_eq (pc := 263) (tgt := 547) rfl rfl (fun c41 => ?_) (fun c41 => absurd rfl c41.1)
        refine tw_iincF (pc := 547) rfl rfl tw_ic_6 (Nat.le_of_ble_eq_true rfl) ⟨by omega, by omega⟩ (fun e42 => ?_)
        refine tw_goto (pc := 550) (tgt := 18) rfl rfl ?_
        exact ih (i + 6) M2 _ (by omega) (by omega) (by omega) hIV2
      by_cases c43 : ((xs iv.toInt.toNat) &&& 31).toInt = 4
      · refine tw_tabIn (pc := 33) (tgt := 268) 4 rfl (by omega) (by decide) rfl rfl ?_
        refine tw_aload_n (pc := 268) rfl rfl ?_
        refine tw_aload_n (pc := 269) rfl rfl ?_
        refine tw_iload_n (pc := 270) rfl rfl ?_
        refine tw_iconst (pc := 271) rfl tw_ic_1 ?_
        refine tw_iaddF (pc := 272) rfl ⟨by omega, by omega⟩ (fun e44 => ?_)
        refine tw_sld (pc := 273) rfl ⟨by omega, by omega⟩ ?_
        refine tw_inv1 (pc := 274) rfl lk_LW_33 (Nat.le_of_ble_eq_true rfl) rfl rfl (tw_C_mono (op_start hIV) (fun r1 M1 hh => ?_))
        obtain ⟨v, rfl, h2⟩ := hh
        refine tw_aload_n (pc := 277) rfl rfl ?_
        refine tw_aload_n (pc := 278) rfl rfl ?_
        refine tw_iload_n (pc := 279) rfl rfl ?_
        refine tw_iconst (pc := 280) rfl tw_ic_1 ?_
        refine tw_iaddF (pc := 281) rfl ⟨by omega, by omega⟩ (fun e46 => ?_)
        refine tw_sld (pc := 282) rfl ⟨by omega, by omega⟩ ?_
        refine tw_inv1 (pc := 283) rfl lk_LW_37 (Nat.le_of_ble_eq_true rfl) rfl rfl (tw_C_mono h2 (fun r2 M2 hh2 => ?_))
        obtain ⟨rfl, hIV2⟩ := hh2
        refine tw_icmp_eq (pc := 286) (tgt := 547) rfl rfl (fun c48 => ?_) (fun c48 => absurd rfl c48.1)
        refine tw_iincF (pc := 547) rfl rfl tw_ic_6 (Nat.le_of_ble_eq_true rfl) ⟨by omega, by omega⟩ (fun e49 => ?_)
        refine tw_goto (pc := 550) (tgt := 18) rfl rfl ?_
        exact ih (i + 6) M2 _ (by omega) (by omega) (by omega) hIV2
      by_cases c50 : ((xs iv.toInt.toNat) &&& 31).toInt = 5
      · refine tw_tabIn (pc := 33) (tgt := 291) 5 rfl (by omega) (by decide) rfl rfl ?_
        refine tw_aload_n (pc := 291) rfl rfl ?_
        refine tw_aload_n (pc := 292) rfl rfl ?_
        refine tw_iload_n (pc := 293) rfl rfl ?_
        refine tw_iconst (pc := 294) rfl tw_ic_1 ?_
        refine tw_iaddF (pc := 295) rfl ⟨by omega, by omega⟩ (fun e51 => ?_)
        refine tw_sld (pc := 296) rfl ⟨by omega, by omega⟩ ?_
        refine tw_inv1 (pc := 297) rfl lk_LW_38 (Nat.le_of_ble_eq_true rfl) rfl rfl (tw_C_mono (op_aim hIV) (fun r1 M1 hh => ?_))
        obtain ⟨v, rfl, h2⟩ := hh
        refine tw_aload_n (pc := 300) rfl rfl ?_
        refine tw_aload_n (pc := 301) rfl rfl ?_
        refine tw_iload_n (pc := 302) rfl rfl ?_
        refine tw_iconst (pc := 303) rfl tw_ic_1 ?_
        refine tw_iaddF (pc := 304) rfl ⟨by omega, by omega⟩ (fun e53 => ?_)
        refine tw_sld (pc := 305) rfl ⟨by omega, by omega⟩ ?_
        refine tw_inv1 (pc := 306) rfl lk_LW_42 (Nat.le_of_ble_eq_true rfl) rfl rfl (tw_C_mono h2 (fun r2 M2 hh2 => ?_))
        obtain ⟨rfl, hIV2⟩ := hh2
        refine tw_icmp_eq (pc := 309) (tgt := 547) rfl rfl (fun c55 => ?_) (fun c55 => absurd rfl c55.1)
        refine tw_iincF (pc := 547) rfl rfl tw_ic_6 (Nat.le_of_ble_eq_true rfl) ⟨by omega, by omega⟩ (fun e56 => ?_)
        refine tw_goto (pc := 550) (tgt := 18) rfl rfl ?_
        exact ih (i + 6) M2 _ (by omega) (by omega) (by omega) hIV2
      by_cases c57 : ((xs iv.toInt.toNat) &&& 31).toInt = 6
      · refine tw_tabIn (pc := 33) (tgt := 314) 6 rfl (by omega) (by decide) rfl rfl ?_
        refine tw_aload_n (pc := 314) rfl rfl ?_
        refine tw_inv0 (pc := 315) rfl lk_LW_43 (Nat.le_of_ble_eq_true rfl) rfl rfl (tw_C_mono (op_forget hIV) (fun r1 M1 hh => ?_))
        obtain ⟨v, rfl, h2⟩ := hh
        refine tw_aload_n (pc := 318) rfl rfl ?_
        refine tw_inv0 (pc := 319) rfl lk_LW_46 (Nat.le_of_ble_eq_true rfl) rfl rfl (tw_C_mono h2 (fun r2 M2 hh2 => ?_))
        obtain ⟨rfl, hIV2⟩ := hh2
        refine tw_icmp_eq (pc := 322) (tgt := 547) rfl rfl (fun c60 => ?_) (fun c60 => absurd rfl c60.1)
        refine tw_iincF (pc := 547) rfl rfl tw_ic_6 (Nat.le_of_ble_eq_true rfl) ⟨by omega, by omega⟩ (fun e61 => ?_)
        refine tw_goto (pc := 550) (tgt := 18) rfl rfl ?_
        exact ih (i + 6) M2 _ (by omega) (by omega) (by omega) hIV2
      by_cases c62 : ((xs iv.toInt.toNat) &&& 31).toInt = 7
      · refine tw_tabIn (pc := 33) (tgt := 327) 7 rfl (by omega) (by decide) rfl rfl ?_
        refine tw_aload_n (pc := 327) rfl rfl ?_
        refine tw_aload_n (pc := 328) rfl rfl ?_
        refine tw_iload_n (pc := 329) rfl rfl ?_
        refine tw_iconst (pc := 330) rfl tw_ic_1 ?_
        refine tw_iaddF (pc := 331) rfl ⟨by omega, by omega⟩ (fun e63 => ?_)
        refine tw_sld (pc := 332) rfl ⟨by omega, by omega⟩ ?_
        refine tw_inv1 (pc := 333) rfl lk_LW_47 (Nat.le_of_ble_eq_true rfl) rfl rfl (tw_C_mono (op_cycle hIV) (fun r1 M1 hh => ?_))
        obtain ⟨v, rfl, h2⟩ := hh
        refine tw_aload_n (pc := 336) rfl rfl ?_
        refine tw_aload_n (pc := 337) rfl rfl ?_
        refine tw_iload_n (pc := 338) rfl rfl ?_
        refine tw_iconst (pc := 339) rfl tw_ic_1 ?_
        refine tw_iaddF (pc := 340) rfl ⟨by omega, by omega⟩ (fun e65 => ?_)
        refine tw_sld (pc := 341) rfl ⟨by omega, by omega⟩ ?_
        refine tw_inv1 (pc := 342) rfl lk_LW_50 (Nat.le_of_ble_eq_true rfl) rfl rfl (tw_C_mono h2 (fun r2 M2 hh2 => ?_))
        obtain ⟨rfl, hIV2⟩ := hh2
        refine tw_icmp_eq (pc := 345) (tgt := 547) rfl rfl (fun c67 => ?_) (fun c67 => absurd rfl c67.1)
        refine tw_iincF (pc := 547) rfl rfl tw_ic_6 (Nat.le_of_ble_eq_true rfl) ⟨by omega, by omega⟩ (fun e68 => ?_)
        refine tw_goto (pc := 550) (tgt := 18) rfl rfl ?_
        exact ih (i + 6) M2 _ (by omega) (by omega) (by omega) hIV2
      by_cases c69 : ((xs iv.toInt.toNat) &&& 31).toInt = 8
      · refine tw_tabIn (pc := 33) (tgt := 350) 8 rfl (by omega) (by decide) rfl rfl ?_
        refine tw_aload_n (pc := 350) rfl rfl ?_
        refine tw_aload_n (pc := 351) rfl rfl ?_
        refine tw_iload_n (pc := 352) rfl rfl ?_
        refine tw_iconst (pc := 353) rfl tw_ic_1 ?_
        refine tw_iaddF (pc := 354) rfl ⟨by omega, by omega⟩ (fun e70 => ?_)
        refine tw_sld (pc := 355) rfl ⟨by omega, by omega⟩ ?_
        refine tw_inv1 (pc := 356) rfl lk_LW_51 (Nat.le_of_ble_eq_true rfl) rfl rfl (tw_C_mono (op_plan hIV) (fun r1 M1 hh => ?_))
        obtain ⟨v, rfl, h2⟩ := hh
        refine tw_aload_n (pc := 359) rfl rfl ?_
        refine tw_aload_n (pc := 360) rfl rfl ?_
        refine tw_iload_n (pc := 361) rfl rfl ?_
        refine tw_iconst (pc := 362) rfl tw_ic_1 ?_
        refine tw_iaddF (pc := 363) rfl ⟨by omega, by omega⟩ (fun e72 => ?_)
        refine tw_sld (pc := 364) rfl ⟨by omega, by omega⟩ ?_
        refine tw_inv1 (pc := 365) rfl lk_LW_54 (Nat.le_of_ble_eq_true rfl) rfl rfl (tw_C_mono h2 (fun r2 M2 hh2 => ?_))
        obtain ⟨rfl, hIV2⟩ := hh2
        refine tw_icmp_eq (pc := 368) (tgt := 547) rfl rfl (fun c74 => ?_) (fun c74 => absurd rfl c74.1)
        refine tw_iincF (pc := 547) rfl rfl tw_ic_6 (Nat.le_of_ble_eq_true rfl) ⟨by omega, by omega⟩ (fun e75 => ?_)
        refine tw_goto (pc := 550) (tgt := 18) rfl rfl ?_
        exact ih (i + 6) M2 _ (by omega) (by omega) (by omega) hIV2
      by_cases c76 : ((xs iv.toInt.toNat) &&& 31).toInt = 9
      · refine tw_tabIn (pc := 33) (tgt := 373) 9 rfl (by omega) (by decide) rfl rfl ?_
        refine tw_aload_n (pc := 373) rfl rfl ?_
        refine tw_aload_n (pc := 374) rfl rfl ?_
        refine tw_iload_n (pc := 375) rfl rfl ?_
        refine tw_iconst (pc := 376) rfl tw_ic_1 ?_
        refine tw_iaddF (pc := 377) rfl ⟨by omega, by omega⟩ (fun e77 => ?_)
        refine tw_sld (pc := 378) rfl ⟨by omega, by omega⟩ ?_
        refine tw_inv1 (pc := 379) rfl lk_LW_55 (Nat.le_of_ble_eq_true rfl) rfl rfl (tw_C_mono (op_another hIV) (fun r1 M1 hh => ?_))
        obtain ⟨v, rfl, h2⟩ := hh
        refine tw_aload_n (pc := 382) rfl rfl ?_
        refine tw_aload_n (pc := 383) rfl rfl ?_
        refine tw_iload_n (pc := 384) rfl rfl ?_
        refine tw_iconst (pc := 385) rfl tw_ic_1 ?_
        refine tw_iaddF (pc := 386) rfl ⟨by omega, by omega⟩ (fun e79 => ?_)
        refine tw_sld (pc := 387) rfl ⟨by omega, by omega⟩ ?_
        refine tw_inv1 (pc := 388) rfl lk_LW_58 (Nat.le_of_ble_eq_true rfl) rfl rfl (tw_C_mono h2 (fun r2 M2 hh2 => ?_))
        obtain ⟨rfl, hIV2⟩ := hh2
        refine tw_icmp_eq (pc := 391) (tgt := 547) rfl rfl (fun c81 => ?_) (fun c81 => absurd rfl c81.1)
        refine tw_iincF (pc := 547) rfl rfl tw_ic_6 (Nat.le_of_ble_eq_true rfl) ⟨by omega, by omega⟩ (fun e82 => ?_)
        refine tw_goto (pc := 550) (tgt := 18) rfl rfl ?_
        exact ih (i + 6) M2 _ (by omega) (by omega) (by omega) hIV2
      by_cases c83 : ((xs iv.toInt.toNat) &&& 31).toInt = 10
      · refine tw_tabIn (pc := 33) (tgt := 396) 10 rfl (by omega) (by decide) rfl rfl ?_
        refine tw_aload_n (pc := 396) rfl rfl ?_
        refine tw_inv0 (pc := 397) rfl lk_LW_59 (Nat.le_of_ble_eq_true rfl) rfl rfl (tw_C_mono (op_steps hIV) (fun r1 M1 hh => ?_))
        obtain ⟨v, rfl, h2⟩ := hh
        refine tw_aload_n (pc := 400) rfl rfl ?_
        refine tw_inv0 (pc := 401) rfl lk_LW_62 (Nat.le_of_ble_eq_true rfl) rfl rfl (tw_C_mono h2 (fun r2 M2 hh2 => ?_))
        obtain ⟨rfl, hIV2⟩ := hh2
        refine tw_icmp_eq (pc := 404) (tgt := 547) rfl rfl (fun c86 => ?_) (fun c86 => absurd rfl c86.1)
        refine tw_iincF (pc := 547) rfl rfl tw_ic_6 (Nat.le_of_ble_eq_true rfl) ⟨by omega, by omega⟩ (fun e87 => ?_)
        refine tw_goto (pc := 550) (tgt := 18) rfl rfl ?_
        exact ih (i + 6) M2 _ (by omega) (by omega) (by omega) hIV2
      by_cases c88 : ((xs iv.toInt.toNat) &&& 31).toInt = 11
      · refine tw_tabIn (pc := 33) (tgt := 409) 11 rfl (by omega) (by decide) rfl rfl ?_
        refine tw_aload_n (pc := 409) rfl rfl ?_
        refine tw_aload_n (pc := 410) rfl rfl ?_
        refine tw_iload_n (pc := 411) rfl rfl ?_
        refine tw_iconst (pc := 412) rfl tw_ic_1 ?_
        refine tw_iaddF (pc := 413) rfl ⟨by omega, by omega⟩ (fun e89 => ?_)
        refine tw_sld (pc := 414) rfl ⟨by omega, by omega⟩ ?_
        refine tw_inv1 (pc := 415) rfl lk_LW_63 (Nat.le_of_ble_eq_true rfl) rfl rfl (tw_C_mono (op_task hIV) (fun r1 M1 hh => ?_))
        obtain ⟨v, rfl, h2⟩ := hh
        refine tw_aload_n (pc := 418) rfl rfl ?_
        refine tw_aload_n (pc := 419) rfl rfl ?_
        refine tw_iload_n (pc := 420) rfl rfl ?_
        refine tw_iconst (pc := 421) rfl tw_ic_1 ?_
        refine tw_iaddF (pc := 422) rfl ⟨by omega, by omega⟩ (fun e91 => ?_)
        refine tw_sld (pc := 423) rfl ⟨by omega, by omega⟩ ?_
        refine tw_inv1 (pc := 424) rfl lk_LW_66 (Nat.le_of_ble_eq_true rfl) rfl rfl (tw_C_mono h2 (fun r2 M2 hh2 => ?_))
        obtain ⟨rfl, hIV2⟩ := hh2
        refine tw_icmp_eq (pc := 427) (tgt := 547) rfl rfl (fun c93 => ?_) (fun c93 => absurd rfl c93.1)
        refine tw_iincF (pc := 547) rfl rfl tw_ic_6 (Nat.le_of_ble_eq_true rfl) ⟨by omega, by omega⟩ (fun e94 => ?_)
        refine tw_goto (pc := 550) (tgt := 18) rfl rfl ?_
        exact ih (i + 6) M2 _ (by omega) (by omega) (by omega) hIV2
      by_cases c95 : ((xs iv.toInt.toNat) &&& 31).toInt = 12
      · refine tw_tabIn (pc := 33) (tgt := 432) 12 rfl (by omega) (by decide) rfl rfl ?_
        refine tw_aload_n (pc := 432) rfl rfl ?_
        refine tw_aload_n (pc := 433) rfl rfl ?_
        refine tw_iload_n (pc := 434) rfl rfl ?_
        refine tw_iconst (pc := 435) rfl tw_ic_1 ?_
        refine tw_iaddF (pc := 436) rfl ⟨by omega, by omega⟩ (fun e96 => ?_)
        refine tw_sld (pc := 437) rfl ⟨by omega, by omega⟩ ?_
        refine tw_inv1 (pc := 438) rfl lk_LW_67 (Nat.le_of_ble_eq_true rfl) rfl rfl (tw_C_mono (op_found hIV) (fun r1 M1 hh => ?_))
        obtain ⟨v, rfl, h2⟩ := hh
        refine tw_aload_n (pc := 441) rfl rfl ?_
        refine tw_aload_n (pc := 442) rfl rfl ?_
        refine tw_iload_n (pc := 443) rfl rfl ?_
        refine tw_iconst (pc := 444) rfl tw_ic_1 ?_
        refine tw_iaddF (pc := 445) rfl ⟨by omega, by omega⟩ (fun e98 => ?_)
        refine tw_sld (pc := 446) rfl ⟨by omega, by omega⟩ ?_
        refine tw_inv1 (pc := 447) rfl lk_LW_70 (Nat.le_of_ble_eq_true rfl) rfl rfl (tw_C_mono h2 (fun r2 M2 hh2 => ?_))
        obtain ⟨rfl, hIV2⟩ := hh2
        refine tw_icmp_eq (pc := 450) (tgt := 547) rfl rfl (fun c100 => ?_) (fun c100 => absurd rfl c100.1)
        refine tw_iincF (pc := 547) rfl rfl tw_ic_6 (Nat.le_of_ble_eq_true rfl) ⟨by omega, by omega⟩ (fun e101 => ?_)
        refine tw_goto (pc := 550) (tgt := 18) rfl rfl ?_
        exact ih (i + 6) M2 _ (by omega) (by omega) (by omega) hIV2
      by_cases c102 : ((xs iv.toInt.toNat) &&& 31).toInt = 13
      · refine tw_tabIn (pc := 33) (tgt := 455) 13 rfl (by omega) (by decide) rfl rfl ?_
        refine tw_aload_n (pc := 455) rfl rfl ?_
        refine tw_aload_n (pc := 456) rfl rfl ?_
        refine tw_iload_n (pc := 457) rfl rfl ?_
        refine tw_iconst (pc := 458) rfl tw_ic_1 ?_
        refine tw_iaddF (pc := 459) rfl ⟨by omega, by omega⟩ (fun e103 => ?_)
        refine tw_sld (pc := 460) rfl ⟨by omega, by omega⟩ ?_
        refine tw_aload_n (pc := 461) rfl rfl ?_
        refine tw_iload_n (pc := 462) rfl rfl ?_
        refine tw_iconst (pc := 463) rfl tw_ic_2 ?_
        refine tw_iaddF (pc := 464) rfl ⟨by omega, by omega⟩ (fun e104 => ?_)
        refine tw_sld (pc := 465) rfl ⟨by omega, by omega⟩ ?_
        refine tw_inv2 (pc := 466) rfl lk_LW_71 (Nat.le_of_ble_eq_true rfl) rfl rfl (tw_C_mono (op_node hIV) (fun r1 M1 hh => ?_))
        obtain ⟨v, rfl, h2⟩ := hh
        refine tw_aload_n (pc := 469) rfl rfl ?_
        refine tw_aload_n (pc := 470) rfl rfl ?_
        refine tw_iload_n (pc := 471) rfl rfl ?_
        refine tw_iconst (pc := 472) rfl tw_ic_1 ?_
        refine tw_iaddF (pc := 473) rfl ⟨by omega, by omega⟩ (fun e106 => ?_)
        refine tw_sld (pc := 474) rfl ⟨by omega, by omega⟩ ?_
        refine tw_aload_n (pc := 475) rfl rfl ?_
        refine tw_iload_n (pc := 476) rfl rfl ?_
        refine tw_iconst (pc := 477) rfl tw_ic_2 ?_
        refine tw_iaddF (pc := 478) rfl ⟨by omega, by omega⟩ (fun e107 => ?_)
        refine tw_sld (pc := 479) rfl ⟨by omega, by omega⟩ ?_
        refine tw_inv2 (pc := 480) rfl lk_LW_74 (Nat.le_of_ble_eq_true rfl) rfl rfl (tw_C_mono h2 (fun r2 M2 hh2 => ?_))
        obtain ⟨rfl, hIV2⟩ := hh2
        refine tw_icmp_eq (pc := 483) (tgt := 547) rfl rfl (fun c109 => ?_) (fun c109 => absurd rfl c109.1)
        refine tw_iincF (pc := 547) rfl rfl tw_ic_6 (Nat.le_of_ble_eq_true rfl) ⟨by omega, by omega⟩ (fun e110 => ?_)
        refine tw_goto (pc := 550) (tgt := 18) rfl rfl ?_
        exact ih (i + 6) M2 _ (by omega) (by omega) (by omega) hIV2
      by_cases c111 : ((xs iv.toInt.toNat) &&& 31).toInt = 14
      · refine tw_tabIn (pc := 33) (tgt := 488) 14 rfl (by omega) (by decide) rfl rfl ?_
        refine tw_aload_n (pc := 488) rfl rfl ?_
        refine tw_inv0 (pc := 489) rfl lk_LW_75 (Nat.le_of_ble_eq_true rfl) rfl rfl (tw_C_mono (op_check hIV) (fun r1 M1 hh => ?_))
        obtain ⟨v, rfl, h2⟩ := hh
        refine tw_aload_n (pc := 492) rfl rfl ?_
        refine tw_inv0 (pc := 493) rfl lk_LW_78 (Nat.le_of_ble_eq_true rfl) rfl rfl (tw_C_mono h2 (fun r2 M2 hh2 => ?_))
        obtain ⟨rfl, hIV2⟩ := hh2
        refine tw_icmp_eq (pc := 496) (tgt := 547) rfl rfl (fun c114 => ?_) (fun c114 => absurd rfl c114.1)
        refine tw_iincF (pc := 547) rfl rfl tw_ic_6 (Nat.le_of_ble_eq_true rfl) ⟨by omega, by omega⟩ (fun e115 => ?_)
        refine tw_goto (pc := 550) (tgt := 18) rfl rfl ?_
        exact ih (i + 6) M2 _ (by omega) (by omega) (by omega) hIV2
      by_cases c116 : ((xs iv.toInt.toNat) &&& 31).toInt = 15
      · refine tw_tabIn (pc := 33) (tgt := 501) 15 rfl (by omega) (by decide) rfl rfl ?_
        refine tw_aload_n (pc := 501) rfl rfl ?_
        refine tw_aload_n (pc := 502) rfl rfl ?_
        refine tw_iload_n (pc := 503) rfl rfl ?_
        refine tw_iconst (pc := 504) rfl tw_ic_1 ?_
        refine tw_iaddF (pc := 505) rfl ⟨by omega, by omega⟩ (fun e117 => ?_)
        refine tw_sld (pc := 506) rfl ⟨by omega, by omega⟩ ?_
        refine tw_aload_n (pc := 507) rfl rfl ?_
        refine tw_iload_n (pc := 508) rfl rfl ?_
        refine tw_iconst (pc := 509) rfl tw_ic_2 ?_
        refine tw_iaddF (pc := 510) rfl ⟨by omega, by omega⟩ (fun e118 => ?_)
        refine tw_sld (pc := 511) rfl ⟨by omega, by omega⟩ ?_
        refine tw_inv2 (pc := 512) rfl lk_LW_79 (Nat.le_of_ble_eq_true rfl) rfl rfl (tw_C_mono (op_told hIV) (fun r1 M1 hh => ?_))
        obtain ⟨v, rfl, h2⟩ := hh
        refine tw_aload_n (pc := 515) rfl rfl ?_
        refine tw_aload_n (pc := 516) rfl rfl ?_
        refine tw_iload_n (pc := 517) rfl rfl ?_
        refine tw_iconst (pc := 518) rfl tw_ic_1 ?_
        refine tw_iaddF (pc := 519) rfl ⟨by omega, by omega⟩ (fun e120 => ?_)
        refine tw_sld (pc := 520) rfl ⟨by omega, by omega⟩ ?_
        refine tw_aload_n (pc := 521) rfl rfl ?_
        refine tw_iload_n (pc := 522) rfl rfl ?_
        refine tw_iconst (pc := 523) rfl tw_ic_2 ?_
        refine tw_iaddF (pc := 524) rfl ⟨by omega, by omega⟩ (fun e121 => ?_)
        refine tw_sld (pc := 525) rfl ⟨by omega, by omega⟩ ?_
        refine tw_inv2 (pc := 526) rfl lk_LW_82 (Nat.le_of_ble_eq_true rfl) rfl rfl (tw_C_mono h2 (fun r2 M2 hh2 => ?_))
        obtain ⟨rfl, hIV2⟩ := hh2
        refine tw_icmp_eq (pc := 529) (tgt := 547) rfl rfl (fun c123 => ?_) (fun c123 => absurd rfl c123.1)
        refine tw_iincF (pc := 547) rfl rfl tw_ic_6 (Nat.le_of_ble_eq_true rfl) ⟨by omega, by omega⟩ (fun e124 => ?_)
        refine tw_goto (pc := 550) (tgt := 18) rfl rfl ?_
        exact ih (i + 6) M2 _ (by omega) (by omega) (by omega) hIV2
      by_cases c125 : ((xs iv.toInt.toNat) &&& 31).toInt = 16
      · refine tw_tabIn (pc := 33) (tgt := 534) 16 rfl (by omega) (by decide) rfl rfl ?_
        refine tw_aload_n (pc := 534) rfl rfl ?_
        refine tw_inv0 (pc := 535) rfl lk_LW_83 (Nat.le_of_ble_eq_true rfl) rfl rfl (tw_C_mono (op_left hIV) (fun r1 M1 hh => ?_))
        obtain ⟨v, rfl, h2⟩ := hh
        refine tw_aload_n (pc := 538) rfl rfl ?_
        refine tw_inv0 (pc := 539) rfl lk_LW_86 (Nat.le_of_ble_eq_true rfl) rfl rfl (tw_C_mono h2 (fun r2 M2 hh2 => ?_))
        obtain ⟨rfl, hIV2⟩ := hh2
        refine tw_icmp_eq (pc := 542) (tgt := 547) rfl rfl (fun c128 => ?_) (fun c128 => absurd rfl c128.1)
        refine tw_iincF (pc := 547) rfl rfl tw_ic_6 (Nat.le_of_ble_eq_true rfl) ⟨by omega, by omega⟩ (fun e129 => ?_)
        refine tw_goto (pc := 550) (tgt := 18) rfl rfl ?_
        exact ih (i + 6) M2 _ (by omega) (by omega) (by omega) hIV2
      refine tw_tabOut (pc := 33) (tgt := 547) rfl (by omega) rfl ?_
      refine tw_iincF (pc := 547) rfl rfl tw_ic_6 (Nat.le_of_ble_eq_true rfl) ⟨by omega, by omega⟩ (fun e130 => ?_)
      refine tw_goto (pc := 550) (tgt := 18) rfl rfl ?_
      exact ih (i + 6) M _ (by omega) (by omega) (by omega) hIV
