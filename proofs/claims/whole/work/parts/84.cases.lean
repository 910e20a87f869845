-- the law's rows and its 37 cases
def XS (E : xE) (b N : Nat) (xs : Nat → Int32) : Prop := match E with
  | (_, _, _, _, s, _, _, _, _, _, (_, A, _, _), _) => va_X b N xs s s.heap ∧ b < s.heap.size ∧ ¬ A b
abbrev LW (ad : xAd) (b k : Nat) : List (Nat × Value) := [(0, .ref b), (1, .ref (ad 0 0 0)), (2, .ref (ad 13 0 0)), (3, .int (nI k))]
section XL
variable {ad : xAd} {E : xE} {Q : Option Value → xSt → Prop} {cc : ByteArray} {nL fr lo : Nat} {own : String} {ret : Option FieldType} {pc : Nat} {L : List (Nat × Value)} {st : List Value} {σ : xSt}
set_option maxHeartbeats 4000000 in
theorem r_xld (X : FX ad E cc nL own ret fr lo) {b N : Nat} {xs : Nat → Int32} (hX : XS E b N xs) {i : Int32} (hin : vp_in i N) (hd : decode cc pc = .ok (.iaload, 1)) (kk : KK ad E Q (pc + 1) L (.int (xs i.toNatClampNeg) :: st) σ) : KK ad E Q pc L (.int i :: .ref b :: st) σ := by
  obtain ⟨p, l, e, R, s, m, args, below, meth, c9, ⟨Z, A, k9, n9⟩, G⟩ := E
  intro H locs ls h1 h2 h3
  exact va_sld X.1 X.2.1 hX.1 hX.2.1 hX.2.2 h3 hin hd (kk H locs ls h1 h2 h3)
set_option maxHeartbeats 4000000 in
theorem r_xlen (X : FX ad E cc nL own ret fr lo) {b N : Nat} {xs : Nat → Int32} (hX : XS E b N xs) (hd : decode cc pc = .ok (.arraylength, 1)) (kk : KK ad E Q (pc + 1) L (.int (Int32.ofNat N) :: st) σ) : KK ad E Q pc L (.ref b :: st) σ := by
  obtain ⟨p, l, e, R, s, m, args, below, meth, c9, ⟨Z, A, k9, n9⟩, G⟩ := E
  intro H locs ls h1 h2 h3
  exact va_slen X.1 X.2.1 hX.1 hX.2.1 hX.2.2 h3 hd (kk H locs ls h1 h2 h3)
set_option maxHeartbeats 4000000 in
/-- a word of the script -/
theorem r_arg (X : FX ad E cc nL own ret fr lo) {b N : Nat} {xs : Nat → Int32} (hX : XS E b N xs) {k j : Nat} {n : Int} (hj : k + j < N) (hN : N ≤ 384) (hn : Int32.ofInt n = nI j) (d0 : decode cc pc = .ok (.aload_n 0, 1)) (d1 : decode cc (pc + 1) = .ok (.iload_n 3, 1)) (d2 : decode cc (pc + 2) = .ok (.iconst n, 1)) (d3 : decode cc (pc + 3) = .ok (.iadd, 1)) (d4 : decode cc (pc + 4) = .ok (.iaload, 1)) (kk : KK ad E Q (pc + 5) (LW ad b k) (.int (xs (k + j)) :: st) σ) : KK ad E Q pc (LW ad b k) st σ := by
  refine r_aload_n X d0 0 rfl rfl ?_
  refine r_iload_n X d1 3 rfl rfl ?_
  refine r_iconst (v := nI j) X d2 hn ?_
  refine r_iadd X d3 ?_
  rw [nI_add]
  refine r_xld X hX (vp_in_nI hj (by omega)) d4 ?_
  rw [nI_clamp (show k + j < 2 ^ 31 by omega)]
  exact kk
end XL
def lLH : List (Nat × Instr × Nat) := [(0, .new 7, 3), (3, .dup, 1), (4, .invokespecial 9, 3), (7, .astore_n 1, 1), (8, .new 10, 3), (11, .dup, 1), (12, .invokespecial 12, 3), (15, .astore_n 2, 1), (16, .iconst 0, 1), (17, .istore_n 3, 1), (18, .iload_n 3, 1), (19, .aload_n 0, 1), (20, .arraylength, 1), (21, .bipush 6, 2), (23, .isub, 1), (24, .if_icmp .gt 1241, 3), (27, .aload_n 0, 1), (28, .iload_n 3, 1), (29, .iaload, 1), (30, .bipush 63, 2), (32, .iand, 1), (33, .tableswitch 1226 0 36 #[163, 196, 219, 242, 265, 288, 321, 364, 377, 400, 443, 486, 519, 532, 545, 568, 581, 594, 627, 660, 683, 706, 749, 762, 775, 798, 821, 844, 888, 931, 974, 997, 1050, 1093, 1156, 1189, 1212], 163)]
set_option maxHeartbeats 4000000 in
theorem DLH : x_dec code lLH = true := by decide +kernel
def lLT : List (Nat × Instr × Nat) := [(1259, .iinc 3 6, 3), (1262, .goto (-1244), 3), (1265, .iconst 1, 1), (1266, .ireturn, 1)]
set_option maxHeartbeats 4000000 in
theorem DLT : x_dec code lLT = true := by decide +kernel
def lL0 : List (Nat × Instr × Nat) := [(196, .aload_n 1, 1), (197, .aload_n 0, 1), (198, .iload_n 3, 1), (199, .iconst 1, 1), (200, .iadd, 1), (201, .iaload, 1), (202, .aload_n 0, 1), (203, .iload_n 3, 1), (204, .iconst 2, 1), (205, .iadd, 1), (206, .iaload, 1), (207, .invokevirtual 13, 3), (210, .aload_n 2, 1), (211, .aload_n 0, 1), (212, .iload_n 3, 1), (213, .iconst 1, 1), (214, .iadd, 1), (215, .iaload, 1), (216, .aload_n 0, 1), (217, .iload_n 3, 1), (218, .iconst 2, 1), (219, .iadd, 1), (220, .iaload, 1), (221, .invokevirtual 17, 3), (224, .if_icmp .eq 1035, 3), (227, .iconst 0, 1), (228, .ireturn, 1)]
set_option maxHeartbeats 4000000 in
theorem DL0 : x_dec code lL0 = true := by decide +kernel
def lL1 : List (Nat × Instr × Nat) := [(229, .aload_n 1, 1), (230, .aload_n 0, 1), (231, .iload_n 3, 1), (232, .iconst 1, 1), (233, .iadd, 1), (234, .iaload, 1), (235, .invokevirtual 18, 3), (238, .aload_n 2, 1), (239, .aload_n 0, 1), (240, .iload_n 3, 1), (241, .iconst 1, 1), (242, .iadd, 1), (243, .iaload, 1), (244, .invokevirtual 22, 3), (247, .if_icmp .eq 1012, 3), (250, .iconst 0, 1), (251, .ireturn, 1)]
set_option maxHeartbeats 4000000 in
theorem DL1 : x_dec code lL1 = true := by decide +kernel
def lL2 : List (Nat × Instr × Nat) := [(252, .aload_n 1, 1), (253, .aload_n 0, 1), (254, .iload_n 3, 1), (255, .iconst 1, 1), (256, .iadd, 1), (257, .iaload, 1), (258, .invokevirtual 23, 3), (261, .aload_n 2, 1), (262, .aload_n 0, 1), (263, .iload_n 3, 1), (264, .iconst 1, 1), (265, .iadd, 1), (266, .iaload, 1), (267, .invokevirtual 26, 3), (270, .if_icmp .eq 989, 3), (273, .iconst 0, 1), (274, .ireturn, 1)]
set_option maxHeartbeats 4000000 in
theorem DL2 : x_dec code lL2 = true := by decide +kernel
def lL3 : List (Nat × Instr × Nat) := [(275, .aload_n 1, 1), (276, .aload_n 0, 1), (277, .iload_n 3, 1), (278, .iconst 1, 1), (279, .iadd, 1), (280, .iaload, 1), (281, .invokevirtual 27, 3), (284, .aload_n 2, 1), (285, .aload_n 0, 1), (286, .iload_n 3, 1), (287, .iconst 1, 1), (288, .iadd, 1), (289, .iaload, 1), (290, .invokevirtual 30, 3), (293, .if_icmp .eq 966, 3), (296, .iconst 0, 1), (297, .ireturn, 1)]
set_option maxHeartbeats 4000000 in
theorem DL3 : x_dec code lL3 = true := by decide +kernel
def lL4 : List (Nat × Instr × Nat) := [(298, .aload_n 1, 1), (299, .aload_n 0, 1), (300, .iload_n 3, 1), (301, .iconst 1, 1), (302, .iadd, 1), (303, .iaload, 1), (304, .invokevirtual 31, 3), (307, .aload_n 2, 1), (308, .aload_n 0, 1), (309, .iload_n 3, 1), (310, .iconst 1, 1), (311, .iadd, 1), (312, .iaload, 1), (313, .invokevirtual 34, 3), (316, .if_icmp .eq 943, 3), (319, .iconst 0, 1), (320, .ireturn, 1)]
set_option maxHeartbeats 4000000 in
theorem DL4 : x_dec code lL4 = true := by decide +kernel
def lL5 : List (Nat × Instr × Nat) := [(321, .aload_n 1, 1), (322, .aload_n 0, 1), (323, .iload_n 3, 1), (324, .iconst 1, 1), (325, .iadd, 1), (326, .iaload, 1), (327, .aload_n 0, 1), (328, .iload_n 3, 1), (329, .iconst 2, 1), (330, .iadd, 1), (331, .iaload, 1), (332, .invokevirtual 35, 3), (335, .aload_n 2, 1), (336, .aload_n 0, 1), (337, .iload_n 3, 1), (338, .iconst 1, 1), (339, .iadd, 1), (340, .iaload, 1), (341, .aload_n 0, 1), (342, .iload_n 3, 1), (343, .iconst 2, 1), (344, .iadd, 1), (345, .iaload, 1), (346, .invokevirtual 38, 3), (349, .if_icmp .eq 910, 3), (352, .iconst 0, 1), (353, .ireturn, 1)]
set_option maxHeartbeats 4000000 in
theorem DL5 : x_dec code lL5 = true := by decide +kernel
def lL6 : List (Nat × Instr × Nat) := [(354, .aload_n 1, 1), (355, .aload_n 0, 1), (356, .iload_n 3, 1), (357, .iconst 1, 1), (358, .iadd, 1), (359, .iaload, 1), (360, .aload_n 0, 1), (361, .iload_n 3, 1), (362, .iconst 2, 1), (363, .iadd, 1), (364, .iaload, 1), (365, .aload_n 0, 1), (366, .iload_n 3, 1), (367, .iconst 3, 1), (368, .iadd, 1), (369, .iaload, 1), (370, .invokevirtual 39, 3), (373, .aload_n 2, 1), (374, .aload_n 0, 1), (375, .iload_n 3, 1), (376, .iconst 1, 1), (377, .iadd, 1), (378, .iaload, 1), (379, .aload_n 0, 1), (380, .iload_n 3, 1), (381, .iconst 2, 1), (382, .iadd, 1), (383, .iaload, 1), (384, .aload_n 0, 1), (385, .iload_n 3, 1), (386, .iconst 3, 1), (387, .iadd, 1), (388, .iaload, 1), (389, .invokevirtual 43, 3), (392, .if_icmp .eq 867, 3), (395, .iconst 0, 1), (396, .ireturn, 1)]
set_option maxHeartbeats 4000000 in
theorem DL6 : x_dec code lL6 = true := by decide +kernel
def lL7 : List (Nat × Instr × Nat) := [(397, .aload_n 1, 1), (398, .invokevirtual 44, 3), (401, .aload_n 2, 1), (402, .invokevirtual 48, 3), (405, .if_icmp .eq 854, 3), (408, .iconst 0, 1), (409, .ireturn, 1)]
set_option maxHeartbeats 4000000 in
theorem DL7 : x_dec code lL7 = true := by decide +kernel
def lL8 : List (Nat × Instr × Nat) := [(410, .aload_n 1, 1), (411, .aload_n 0, 1), (412, .iload_n 3, 1), (413, .iconst 1, 1), (414, .iadd, 1), (415, .iaload, 1), (416, .invokevirtual 49, 3), (419, .aload_n 2, 1), (420, .aload_n 0, 1), (421, .iload_n 3, 1), (422, .iconst 1, 1), (423, .iadd, 1), (424, .iaload, 1), (425, .invokevirtual 52, 3), (428, .if_icmp .eq 831, 3), (431, .iconst 0, 1), (432, .ireturn, 1)]
set_option maxHeartbeats 4000000 in
theorem DL8 : x_dec code lL8 = true := by decide +kernel
def lL9 : List (Nat × Instr × Nat) := [(433, .aload_n 1, 1), (434, .aload_n 0, 1), (435, .iload_n 3, 1), (436, .iconst 1, 1), (437, .iadd, 1), (438, .iaload, 1), (439, .aload_n 0, 1), (440, .iload_n 3, 1), (441, .iconst 2, 1), (442, .iadd, 1), (443, .iaload, 1), (444, .aload_n 0, 1), (445, .iload_n 3, 1), (446, .iconst 3, 1), (447, .iadd, 1), (448, .iaload, 1), (449, .invokevirtual 53, 3), (452, .aload_n 2, 1), (453, .aload_n 0, 1), (454, .iload_n 3, 1), (455, .iconst 1, 1), (456, .iadd, 1), (457, .iaload, 1), (458, .aload_n 0, 1), (459, .iload_n 3, 1), (460, .iconst 2, 1), (461, .iadd, 1), (462, .iaload, 1), (463, .aload_n 0, 1), (464, .iload_n 3, 1), (465, .iconst 3, 1), (466, .iadd, 1), (467, .iaload, 1), (468, .invokevirtual 56, 3), (471, .if_icmp .eq 788, 3), (474, .iconst 0, 1), (475, .ireturn, 1)]
set_option maxHeartbeats 4000000 in
theorem DL9 : x_dec code lL9 = true := by decide +kernel
def lL10 : List (Nat × Instr × Nat) := [(476, .aload_n 1, 1), (477, .aload_n 0, 1), (478, .iload_n 3, 1), (479, .iconst 1, 1), (480, .iadd, 1), (481, .iaload, 1), (482, .aload_n 0, 1), (483, .iload_n 3, 1), (484, .iconst 2, 1), (485, .iadd, 1), (486, .iaload, 1), (487, .aload_n 0, 1), (488, .iload_n 3, 1), (489, .iconst 3, 1), (490, .iadd, 1), (491, .iaload, 1), (492, .invokevirtual 57, 3), (495, .aload_n 2, 1), (496, .aload_n 0, 1), (497, .iload_n 3, 1), (498, .iconst 1, 1), (499, .iadd, 1), (500, .iaload, 1), (501, .aload_n 0, 1), (502, .iload_n 3, 1), (503, .iconst 2, 1), (504, .iadd, 1), (505, .iaload, 1), (506, .aload_n 0, 1), (507, .iload_n 3, 1), (508, .iconst 3, 1), (509, .iadd, 1), (510, .iaload, 1), (511, .invokevirtual 60, 3), (514, .if_icmp .eq 745, 3), (517, .iconst 0, 1), (518, .ireturn, 1)]
set_option maxHeartbeats 4000000 in
theorem DL10 : x_dec code lL10 = true := by decide +kernel
def lL11 : List (Nat × Instr × Nat) := [(519, .aload_n 1, 1), (520, .aload_n 0, 1), (521, .iload_n 3, 1), (522, .iconst 1, 1), (523, .iadd, 1), (524, .iaload, 1), (525, .aload_n 0, 1), (526, .iload_n 3, 1), (527, .iconst 2, 1), (528, .iadd, 1), (529, .iaload, 1), (530, .invokevirtual 61, 3), (533, .aload_n 2, 1), (534, .aload_n 0, 1), (535, .iload_n 3, 1), (536, .iconst 1, 1), (537, .iadd, 1), (538, .iaload, 1), (539, .aload_n 0, 1), (540, .iload_n 3, 1), (541, .iconst 2, 1), (542, .iadd, 1), (543, .iaload, 1), (544, .invokevirtual 64, 3), (547, .if_icmp .eq 712, 3), (550, .iconst 0, 1), (551, .ireturn, 1)]
set_option maxHeartbeats 4000000 in
theorem DL11 : x_dec code lL11 = true := by decide +kernel
def lL12 : List (Nat × Instr × Nat) := [(552, .aload_n 1, 1), (553, .invokevirtual 65, 3), (556, .aload_n 2, 1), (557, .invokevirtual 68, 3), (560, .if_icmp .eq 699, 3), (563, .iconst 0, 1), (564, .ireturn, 1)]
set_option maxHeartbeats 4000000 in
theorem DL12 : x_dec code lL12 = true := by decide +kernel
def lL13 : List (Nat × Instr × Nat) := [(565, .aload_n 1, 1), (566, .invokevirtual 69, 3), (569, .aload_n 2, 1), (570, .invokevirtual 72, 3), (573, .if_icmp .eq 686, 3), (576, .iconst 0, 1), (577, .ireturn, 1)]
set_option maxHeartbeats 4000000 in
theorem DL13 : x_dec code lL13 = true := by decide +kernel
def lL14 : List (Nat × Instr × Nat) := [(578, .aload_n 1, 1), (579, .aload_n 0, 1), (580, .iload_n 3, 1), (581, .iconst 1, 1), (582, .iadd, 1), (583, .iaload, 1), (584, .invokevirtual 73, 3), (587, .aload_n 2, 1), (588, .aload_n 0, 1), (589, .iload_n 3, 1), (590, .iconst 1, 1), (591, .iadd, 1), (592, .iaload, 1), (593, .invokevirtual 76, 3), (596, .if_icmp .eq 663, 3), (599, .iconst 0, 1), (600, .ireturn, 1)]
set_option maxHeartbeats 4000000 in
theorem DL14 : x_dec code lL14 = true := by decide +kernel
def lL15 : List (Nat × Instr × Nat) := [(601, .aload_n 1, 1), (602, .invokevirtual 77, 3), (605, .aload_n 2, 1), (606, .invokevirtual 80, 3), (609, .if_icmp .eq 650, 3), (612, .iconst 0, 1), (613, .ireturn, 1)]
set_option maxHeartbeats 4000000 in
theorem DL15 : x_dec code lL15 = true := by decide +kernel
def lL16 : List (Nat × Instr × Nat) := [(614, .aload_n 1, 1), (615, .invokevirtual 81, 3), (618, .aload_n 2, 1), (619, .invokevirtual 84, 3), (622, .if_icmp .eq 637, 3), (625, .iconst 0, 1), (626, .ireturn, 1)]
set_option maxHeartbeats 4000000 in
theorem DL16 : x_dec code lL16 = true := by decide +kernel
def lL17 : List (Nat × Instr × Nat) := [(627, .aload_n 1, 1), (628, .aload_n 0, 1), (629, .iload_n 3, 1), (630, .iconst 1, 1), (631, .iadd, 1), (632, .iaload, 1), (633, .aload_n 0, 1), (634, .iload_n 3, 1), (635, .iconst 2, 1), (636, .iadd, 1), (637, .iaload, 1), (638, .invokevirtual 85, 3), (641, .aload_n 2, 1), (642, .aload_n 0, 1), (643, .iload_n 3, 1), (644, .iconst 1, 1), (645, .iadd, 1), (646, .iaload, 1), (647, .aload_n 0, 1), (648, .iload_n 3, 1), (649, .iconst 2, 1), (650, .iadd, 1), (651, .iaload, 1), (652, .invokevirtual 88, 3), (655, .if_icmp .eq 604, 3), (658, .iconst 0, 1), (659, .ireturn, 1)]
set_option maxHeartbeats 4000000 in
theorem DL17 : x_dec code lL17 = true := by decide +kernel
def lL18 : List (Nat × Instr × Nat) := [(660, .aload_n 1, 1), (661, .aload_n 0, 1), (662, .iload_n 3, 1), (663, .iconst 1, 1), (664, .iadd, 1), (665, .iaload, 1), (666, .aload_n 0, 1), (667, .iload_n 3, 1), (668, .iconst 2, 1), (669, .iadd, 1), (670, .iaload, 1), (671, .invokevirtual 89, 3), (674, .aload_n 2, 1), (675, .aload_n 0, 1), (676, .iload_n 3, 1), (677, .iconst 1, 1), (678, .iadd, 1), (679, .iaload, 1), (680, .aload_n 0, 1), (681, .iload_n 3, 1), (682, .iconst 2, 1), (683, .iadd, 1), (684, .iaload, 1), (685, .invokevirtual 92, 3), (688, .if_icmp .eq 571, 3), (691, .iconst 0, 1), (692, .ireturn, 1)]
set_option maxHeartbeats 4000000 in
theorem DL18 : x_dec code lL18 = true := by decide +kernel
def lL19 : List (Nat × Instr × Nat) := [(693, .aload_n 1, 1), (694, .aload_n 0, 1), (695, .iload_n 3, 1), (696, .iconst 1, 1), (697, .iadd, 1), (698, .iaload, 1), (699, .invokevirtual 93, 3), (702, .aload_n 2, 1), (703, .aload_n 0, 1), (704, .iload_n 3, 1), (705, .iconst 1, 1), (706, .iadd, 1), (707, .iaload, 1), (708, .invokevirtual 96, 3), (711, .if_icmp .eq 548, 3), (714, .iconst 0, 1), (715, .ireturn, 1)]
set_option maxHeartbeats 4000000 in
theorem DL19 : x_dec code lL19 = true := by decide +kernel
def lL20 : List (Nat × Instr × Nat) := [(716, .aload_n 1, 1), (717, .aload_n 0, 1), (718, .iload_n 3, 1), (719, .iconst 1, 1), (720, .iadd, 1), (721, .iaload, 1), (722, .invokevirtual 97, 3), (725, .aload_n 2, 1), (726, .aload_n 0, 1), (727, .iload_n 3, 1), (728, .iconst 1, 1), (729, .iadd, 1), (730, .iaload, 1), (731, .invokevirtual 100, 3), (734, .if_icmp .eq 525, 3), (737, .iconst 0, 1), (738, .ireturn, 1)]
set_option maxHeartbeats 4000000 in
theorem DL20 : x_dec code lL20 = true := by decide +kernel
def lL21 : List (Nat × Instr × Nat) := [(739, .aload_n 1, 1), (740, .aload_n 0, 1), (741, .iload_n 3, 1), (742, .iconst 1, 1), (743, .iadd, 1), (744, .iaload, 1), (745, .aload_n 0, 1), (746, .iload_n 3, 1), (747, .iconst 2, 1), (748, .iadd, 1), (749, .iaload, 1), (750, .aload_n 0, 1), (751, .iload_n 3, 1), (752, .iconst 3, 1), (753, .iadd, 1), (754, .iaload, 1), (755, .invokevirtual 101, 3), (758, .aload_n 2, 1), (759, .aload_n 0, 1), (760, .iload_n 3, 1), (761, .iconst 1, 1), (762, .iadd, 1), (763, .iaload, 1), (764, .aload_n 0, 1), (765, .iload_n 3, 1), (766, .iconst 2, 1), (767, .iadd, 1), (768, .iaload, 1), (769, .aload_n 0, 1), (770, .iload_n 3, 1), (771, .iconst 3, 1), (772, .iadd, 1), (773, .iaload, 1), (774, .invokevirtual 104, 3), (777, .if_icmp .eq 482, 3), (780, .iconst 0, 1), (781, .ireturn, 1)]
set_option maxHeartbeats 4000000 in
theorem DL21 : x_dec code lL21 = true := by decide +kernel
def lL22 : List (Nat × Instr × Nat) := [(782, .aload_n 1, 1), (783, .invokevirtual 105, 3), (786, .aload_n 2, 1), (787, .invokevirtual 108, 3), (790, .if_icmp .eq 469, 3), (793, .iconst 0, 1), (794, .ireturn, 1)]
set_option maxHeartbeats 4000000 in
theorem DL22 : x_dec code lL22 = true := by decide +kernel
def lL23 : List (Nat × Instr × Nat) := [(795, .aload_n 1, 1), (796, .invokevirtual 109, 3), (799, .aload_n 2, 1), (800, .invokevirtual 112, 3), (803, .if_icmp .eq 456, 3), (806, .iconst 0, 1), (807, .ireturn, 1)]
set_option maxHeartbeats 4000000 in
theorem DL23 : x_dec code lL23 = true := by decide +kernel
def lL24 : List (Nat × Instr × Nat) := [(808, .aload_n 1, 1), (809, .aload_n 0, 1), (810, .iload_n 3, 1), (811, .iconst 1, 1), (812, .iadd, 1), (813, .iaload, 1), (814, .invokevirtual 113, 3), (817, .aload_n 2, 1), (818, .aload_n 0, 1), (819, .iload_n 3, 1), (820, .iconst 1, 1), (821, .iadd, 1), (822, .iaload, 1), (823, .invokevirtual 116, 3), (826, .if_icmp .eq 433, 3), (829, .iconst 0, 1), (830, .ireturn, 1)]
set_option maxHeartbeats 4000000 in
theorem DL24 : x_dec code lL24 = true := by decide +kernel
def lL25 : List (Nat × Instr × Nat) := [(831, .aload_n 1, 1), (832, .aload_n 0, 1), (833, .iload_n 3, 1), (834, .iconst 1, 1), (835, .iadd, 1), (836, .iaload, 1), (837, .invokevirtual 117, 3), (840, .aload_n 2, 1), (841, .aload_n 0, 1), (842, .iload_n 3, 1), (843, .iconst 1, 1), (844, .iadd, 1), (845, .iaload, 1), (846, .invokevirtual 120, 3), (849, .if_icmp .eq 410, 3), (852, .iconst 0, 1), (853, .ireturn, 1)]
set_option maxHeartbeats 4000000 in
theorem DL25 : x_dec code lL25 = true := by decide +kernel
def lL26 : List (Nat × Instr × Nat) := [(854, .aload_n 1, 1), (855, .aload_n 0, 1), (856, .iload_n 3, 1), (857, .iconst 1, 1), (858, .iadd, 1), (859, .iaload, 1), (860, .invokevirtual 121, 3), (863, .aload_n 2, 1), (864, .aload_n 0, 1), (865, .iload_n 3, 1), (866, .iconst 1, 1), (867, .iadd, 1), (868, .iaload, 1), (869, .invokevirtual 124, 3), (872, .if_icmp .eq 387, 3), (875, .iconst 0, 1), (876, .ireturn, 1)]
set_option maxHeartbeats 4000000 in
theorem DL26 : x_dec code lL26 = true := by decide +kernel
def lL27 : List (Nat × Instr × Nat) := [(877, .aload_n 1, 1), (878, .aload_n 0, 1), (879, .iload_n 3, 1), (880, .iconst 1, 1), (881, .iadd, 1), (882, .iaload, 1), (883, .aload_n 0, 1), (884, .iload_n 3, 1), (885, .iconst 2, 1), (886, .iadd, 1), (887, .iaload, 1), (888, .aload_n 0, 1), (889, .iload_n 3, 1), (890, .iconst 3, 1), (891, .iadd, 1), (892, .iaload, 1), (893, .invokevirtual 125, 3), (896, .aload_n 2, 1), (897, .aload_n 0, 1), (898, .iload_n 3, 1), (899, .iconst 1, 1), (900, .iadd, 1), (901, .iaload, 1), (902, .aload_n 0, 1), (903, .iload_n 3, 1), (904, .iconst 2, 1), (905, .iadd, 1), (906, .iaload, 1), (907, .aload_n 0, 1), (908, .iload_n 3, 1), (909, .iconst 3, 1), (910, .iadd, 1), (911, .iaload, 1), (912, .invokevirtual 129, 3), (915, .lcmp, 1), (916, .ifCond .eq 343, 3), (919, .iconst 0, 1), (920, .ireturn, 1)]
set_option maxHeartbeats 4000000 in
theorem DL27 : x_dec code lL27 = true := by decide +kernel
def lL28 : List (Nat × Instr × Nat) := [(921, .aload_n 1, 1), (922, .aload_n 0, 1), (923, .iload_n 3, 1), (924, .iconst 1, 1), (925, .iadd, 1), (926, .iaload, 1), (927, .aload_n 0, 1), (928, .iload_n 3, 1), (929, .iconst 2, 1), (930, .iadd, 1), (931, .iaload, 1), (932, .aload_n 0, 1), (933, .iload_n 3, 1), (934, .iconst 3, 1), (935, .iadd, 1), (936, .iaload, 1), (937, .invokevirtual 130, 3), (940, .aload_n 2, 1), (941, .aload_n 0, 1), (942, .iload_n 3, 1), (943, .iconst 1, 1), (944, .iadd, 1), (945, .iaload, 1), (946, .aload_n 0, 1), (947, .iload_n 3, 1), (948, .iconst 2, 1), (949, .iadd, 1), (950, .iaload, 1), (951, .aload_n 0, 1), (952, .iload_n 3, 1), (953, .iconst 3, 1), (954, .iadd, 1), (955, .iaload, 1), (956, .invokevirtual 133, 3), (959, .if_icmp .eq 300, 3), (962, .iconst 0, 1), (963, .ireturn, 1)]
set_option maxHeartbeats 4000000 in
theorem DL28 : x_dec code lL28 = true := by decide +kernel
def lL29 : List (Nat × Instr × Nat) := [(964, .aload_n 1, 1), (965, .aload_n 0, 1), (966, .iload_n 3, 1), (967, .iconst 1, 1), (968, .iadd, 1), (969, .iaload, 1), (970, .aload_n 0, 1), (971, .iload_n 3, 1), (972, .iconst 2, 1), (973, .iadd, 1), (974, .iaload, 1), (975, .aload_n 0, 1), (976, .iload_n 3, 1), (977, .iconst 3, 1), (978, .iadd, 1), (979, .iaload, 1), (980, .invokevirtual 134, 3), (983, .aload_n 2, 1), (984, .aload_n 0, 1), (985, .iload_n 3, 1), (986, .iconst 1, 1), (987, .iadd, 1), (988, .iaload, 1), (989, .aload_n 0, 1), (990, .iload_n 3, 1), (991, .iconst 2, 1), (992, .iadd, 1), (993, .iaload, 1), (994, .aload_n 0, 1), (995, .iload_n 3, 1), (996, .iconst 3, 1), (997, .iadd, 1), (998, .iaload, 1), (999, .invokevirtual 137, 3), (1002, .if_icmp .eq 257, 3), (1005, .iconst 0, 1), (1006, .ireturn, 1)]
set_option maxHeartbeats 4000000 in
theorem DL29 : x_dec code lL29 = true := by decide +kernel
def lL30 : List (Nat × Instr × Nat) := [(1007, .aload_n 1, 1), (1008, .aload_n 0, 1), (1009, .iload_n 3, 1), (1010, .iconst 1, 1), (1011, .iadd, 1), (1012, .iaload, 1), (1013, .invokevirtual 138, 3), (1016, .aload_n 2, 1), (1017, .aload_n 0, 1), (1018, .iload_n 3, 1), (1019, .iconst 1, 1), (1020, .iadd, 1), (1021, .iaload, 1), (1022, .invokevirtual 141, 3), (1025, .if_icmp .eq 234, 3), (1028, .iconst 0, 1), (1029, .ireturn, 1)]
set_option maxHeartbeats 4000000 in
theorem DL30 : x_dec code lL30 = true := by decide +kernel
def lL31 : List (Nat × Instr × Nat) := [(1030, .aload_n 1, 1), (1031, .aload_n 0, 1), (1032, .iload_n 3, 1), (1033, .iconst 1, 1), (1034, .iadd, 1), (1035, .iaload, 1), (1036, .aload_n 0, 1), (1037, .iload_n 3, 1), (1038, .iconst 2, 1), (1039, .iadd, 1), (1040, .iaload, 1), (1041, .aload_n 0, 1), (1042, .iload_n 3, 1), (1043, .iconst 3, 1), (1044, .iadd, 1), (1045, .iaload, 1), (1046, .aload_n 0, 1), (1047, .iload_n 3, 1), (1048, .iconst 4, 1), (1049, .iadd, 1), (1050, .iaload, 1), (1051, .invokevirtual 142, 3), (1054, .aload_n 2, 1), (1055, .aload_n 0, 1), (1056, .iload_n 3, 1), (1057, .iconst 1, 1), (1058, .iadd, 1), (1059, .iaload, 1), (1060, .aload_n 0, 1), (1061, .iload_n 3, 1), (1062, .iconst 2, 1), (1063, .iadd, 1), (1064, .iaload, 1), (1065, .aload_n 0, 1), (1066, .iload_n 3, 1), (1067, .iconst 3, 1), (1068, .iadd, 1), (1069, .iaload, 1), (1070, .aload_n 0, 1), (1071, .iload_n 3, 1), (1072, .iconst 4, 1), (1073, .iadd, 1), (1074, .iaload, 1), (1075, .invokevirtual 146, 3), (1078, .if_icmp .eq 181, 3), (1081, .iconst 0, 1), (1082, .ireturn, 1)]
set_option maxHeartbeats 4000000 in
theorem DL31 : x_dec code lL31 = true := by decide +kernel
def lL32 : List (Nat × Instr × Nat) := [(1083, .aload_n 1, 1), (1084, .aload_n 0, 1), (1085, .iload_n 3, 1), (1086, .iconst 1, 1), (1087, .iadd, 1), (1088, .iaload, 1), (1089, .aload_n 0, 1), (1090, .iload_n 3, 1), (1091, .iconst 2, 1), (1092, .iadd, 1), (1093, .iaload, 1), (1094, .aload_n 0, 1), (1095, .iload_n 3, 1), (1096, .iconst 3, 1), (1097, .iadd, 1), (1098, .iaload, 1), (1099, .invokevirtual 147, 3), (1102, .aload_n 2, 1), (1103, .aload_n 0, 1), (1104, .iload_n 3, 1), (1105, .iconst 1, 1), (1106, .iadd, 1), (1107, .iaload, 1), (1108, .aload_n 0, 1), (1109, .iload_n 3, 1), (1110, .iconst 2, 1), (1111, .iadd, 1), (1112, .iaload, 1), (1113, .aload_n 0, 1), (1114, .iload_n 3, 1), (1115, .iconst 3, 1), (1116, .iadd, 1), (1117, .iaload, 1), (1118, .invokevirtual 150, 3), (1121, .if_icmp .eq 138, 3), (1124, .iconst 0, 1), (1125, .ireturn, 1)]
set_option maxHeartbeats 4000000 in
theorem DL32 : x_dec code lL32 = true := by decide +kernel
def lL33 : List (Nat × Instr × Nat) := [(1126, .aload_n 1, 1), (1127, .aload_n 0, 1), (1128, .iload_n 3, 1), (1129, .iconst 1, 1), (1130, .iadd, 1), (1131, .iaload, 1), (1132, .aload_n 0, 1), (1133, .iload_n 3, 1), (1134, .iconst 2, 1), (1135, .iadd, 1), (1136, .iaload, 1), (1137, .aload_n 0, 1), (1138, .iload_n 3, 1), (1139, .iconst 3, 1), (1140, .iadd, 1), (1141, .iaload, 1), (1142, .aload_n 0, 1), (1143, .iload_n 3, 1), (1144, .iconst 4, 1), (1145, .iadd, 1), (1146, .iaload, 1), (1147, .aload_n 0, 1), (1148, .iload_n 3, 1), (1149, .iconst 5, 1), (1150, .iadd, 1), (1151, .iaload, 1), (1152, .invokevirtual 151, 3), (1155, .aload_n 2, 1), (1156, .aload_n 0, 1), (1157, .iload_n 3, 1), (1158, .iconst 1, 1), (1159, .iadd, 1), (1160, .iaload, 1), (1161, .aload_n 0, 1), (1162, .iload_n 3, 1), (1163, .iconst 2, 1), (1164, .iadd, 1), (1165, .iaload, 1), (1166, .aload_n 0, 1), (1167, .iload_n 3, 1), (1168, .iconst 3, 1), (1169, .iadd, 1), (1170, .iaload, 1), (1171, .aload_n 0, 1), (1172, .iload_n 3, 1), (1173, .iconst 4, 1), (1174, .iadd, 1), (1175, .iaload, 1), (1176, .aload_n 0, 1), (1177, .iload_n 3, 1), (1178, .iconst 5, 1), (1179, .iadd, 1), (1180, .iaload, 1), (1181, .invokevirtual 155, 3), (1184, .if_icmp .eq 75, 3), (1187, .iconst 0, 1), (1188, .ireturn, 1)]
set_option maxHeartbeats 4000000 in
theorem DL33 : x_dec code lL33 = true := by decide +kernel
def lL34 : List (Nat × Instr × Nat) := [(1189, .aload_n 1, 1), (1190, .aload_n 0, 1), (1191, .iload_n 3, 1), (1192, .iconst 1, 1), (1193, .iadd, 1), (1194, .iaload, 1), (1195, .aload_n 0, 1), (1196, .iload_n 3, 1), (1197, .iconst 2, 1), (1198, .iadd, 1), (1199, .iaload, 1), (1200, .invokevirtual 156, 3), (1203, .aload_n 2, 1), (1204, .aload_n 0, 1), (1205, .iload_n 3, 1), (1206, .iconst 1, 1), (1207, .iadd, 1), (1208, .iaload, 1), (1209, .aload_n 0, 1), (1210, .iload_n 3, 1), (1211, .iconst 2, 1), (1212, .iadd, 1), (1213, .iaload, 1), (1214, .invokevirtual 159, 3), (1217, .if_icmp .eq 42, 3), (1220, .iconst 0, 1), (1221, .ireturn, 1)]
set_option maxHeartbeats 4000000 in
theorem DL34 : x_dec code lL34 = true := by decide +kernel
def lL35 : List (Nat × Instr × Nat) := [(1222, .aload_n 1, 1), (1223, .aload_n 0, 1), (1224, .iload_n 3, 1), (1225, .iconst 1, 1), (1226, .iadd, 1), (1227, .iaload, 1), (1228, .invokevirtual 160, 3), (1231, .aload_n 2, 1), (1232, .aload_n 0, 1), (1233, .iload_n 3, 1), (1234, .iconst 1, 1), (1235, .iadd, 1), (1236, .iaload, 1), (1237, .invokevirtual 163, 3), (1240, .if_icmp .eq 19, 3), (1243, .iconst 0, 1), (1244, .ireturn, 1)]
set_option maxHeartbeats 4000000 in
theorem DL35 : x_dec code lL35 = true := by decide +kernel
def lL36 : List (Nat × Instr × Nat) := [(1245, .aload_n 1, 1), (1246, .invokevirtual 164, 3), (1249, .aload_n 2, 1), (1250, .invokevirtual 168, 3), (1253, .lcmp, 1), (1254, .ifCond .eq 5, 3), (1257, .iconst 0, 1), (1258, .ireturn, 1)]
set_option maxHeartbeats 4000000 in
theorem DL36 : x_dec code lL36 = true := by decide +kernel
set_option maxHeartbeats 4000000 in
theorem lg_cmp_self (x : Int64) : lg_cmp x x = 0 := by simp [lg_cmp]
set_option maxHeartbeats 4000000 in
set_option maxRecDepth 10000 in
theorem lc_0 {ad : xAd} {E : xE} {Q : Option Value → xSt → Prop} {b N k : Nat} {xs : Nat → Int32} {σ : xSt} (X : FX ad E code 4 RL x_tag 14 562) (hX : XS E b N xs) (hk : k + 6 ≤ N) (hN : N ≤ 384) (hR : RR σ) (kk : ∀ s1, RR s1 → KK ad E Q 1259 (LW ad b k) [] s1) : KK ad E Q 196 (LW ad b k) [] σ := by
  refine r_aload_n X (x_dr DL0 0 rfl) 1 rfl rfl ?_
  refine r_arg (j := 1) X hX (by omega) hN (by decide) (x_dr DL0 1 rfl) (x_dr DL0 2 rfl) (x_dr DL0 3 rfl) (x_dr DL0 4 rfl) (x_dr DL0 5 rfl) ?_
  refine r_arg (j := 2) X hX (by omega) hN (by decide) (x_dr DL0 6 rfl) (x_dr DL0 7 rfl) (x_dr DL0 8 rfl) (x_dr DL0 9 rfl) (x_dr DL0 10 rfl) ?_
  refine r_callV (As := [.int (xs (k + 1)), .int (xs (k + 2))]) (n := 2) X (k6_type (q_type hR)) (o := 0) rfl (by decide) rfl ml_L_13 mi_6_type mv_6_type mn_6 mc_6_type ⟨by decide +kernel, by decide +kernel, by decide +kernel⟩ rfl ⟨Nat.le_of_ble_eq_true rfl, Nat.le_of_ble_eq_true rfl⟩ (Nat.le_of_ble_eq_true rfl) (x_dr DL0 11 rfl) (fun v s1 h => ?_)
  obtain ⟨r1, rfl, h⟩ := h
  refine r_aload_n X (x_dr DL0 12 rfl) 2 rfl rfl ?_
  refine r_arg (j := 1) X hX (by omega) hN (by decide) (x_dr DL0 13 rfl) (x_dr DL0 14 rfl) (x_dr DL0 15 rfl) (x_dr DL0 16 rfl) (x_dr DL0 17 rfl) ?_
  refine r_arg (j := 2) X hX (by omega) hN (by decide) (x_dr DL0 18 rfl) (x_dr DL0 19 rfl) (x_dr DL0 20 rfl) (x_dr DL0 21 rfl) (x_dr DL0 22 rfl) ?_
  refine r_callV (As := [.int (xs (k + 1)), .int (xs (k + 2))]) (n := 2) X (k7_type h) (o := 13) rfl (by decide) rfl ml_L_17 mi_7_type mv_7_type mn_7 mc_7_type ⟨by decide +kernel, by decide +kernel, by decide +kernel⟩ rfl ⟨Nat.le_of_ble_eq_true rfl, Nat.le_of_ble_eq_true rfl⟩ (Nat.le_of_ble_eq_true rfl) (x_dr DL0 23 rfl) (fun v s2 h => ?_)
  obtain ⟨r2, rfl, e, h⟩ := h
  subst e
  refine r_icmp_eq X 1259 (x_dr DL0 24 rfl) (by decide) (fun _ => kk s2 h) (fun c9 => absurd rfl c9)
set_option maxHeartbeats 4000000 in
set_option maxRecDepth 10000 in
theorem lc_1 {ad : xAd} {E : xE} {Q : Option Value → xSt → Prop} {b N k : Nat} {xs : Nat → Int32} {σ : xSt} (X : FX ad E code 4 RL x_tag 14 562) (hX : XS E b N xs) (hk : k + 6 ≤ N) (hN : N ≤ 384) (hR : RR σ) (kk : ∀ s1, RR s1 → KK ad E Q 1259 (LW ad b k) [] s1) : KK ad E Q 229 (LW ad b k) [] σ := by
  refine r_aload_n X (x_dr DL1 0 rfl) 1 rfl rfl ?_
  refine r_arg (j := 1) X hX (by omega) hN (by decide) (x_dr DL1 1 rfl) (x_dr DL1 2 rfl) (x_dr DL1 3 rfl) (x_dr DL1 4 rfl) (x_dr DL1 5 rfl) ?_
  refine r_callV (As := [.int (xs (k + 1))]) (n := 1) X (k6_wipe (q_wipe hR)) (o := 0) rfl (by decide) rfl ml_L_18 mi_6_wipe mv_6_wipe mn_6 mc_6_wipe ⟨by decide +kernel, by decide +kernel, by decide +kernel⟩ rfl ⟨Nat.le_of_ble_eq_true rfl, Nat.le_of_ble_eq_true rfl⟩ (Nat.le_of_ble_eq_true rfl) (x_dr DL1 6 rfl) (fun v s1 h => ?_)
  obtain ⟨r1, rfl, h⟩ := h
  refine r_aload_n X (x_dr DL1 7 rfl) 2 rfl rfl ?_
  refine r_arg (j := 1) X hX (by omega) hN (by decide) (x_dr DL1 8 rfl) (x_dr DL1 9 rfl) (x_dr DL1 10 rfl) (x_dr DL1 11 rfl) (x_dr DL1 12 rfl) ?_
  refine r_callV (As := [.int (xs (k + 1))]) (n := 1) X (k7_wipe h) (o := 13) rfl (by decide) rfl ml_L_22 mi_7_wipe mv_7_wipe mn_7 mc_7_wipe ⟨by decide +kernel, by decide +kernel, by decide +kernel⟩ rfl ⟨Nat.le_of_ble_eq_true rfl, Nat.le_of_ble_eq_true rfl⟩ (Nat.le_of_ble_eq_true rfl) (x_dr DL1 13 rfl) (fun v s2 h => ?_)
  obtain ⟨r2, rfl, e, h⟩ := h
  subst e
  refine r_icmp_eq X 1259 (x_dr DL1 14 rfl) (by decide) (fun _ => kk s2 h) (fun c9 => absurd rfl c9)
set_option maxHeartbeats 4000000 in
set_option maxRecDepth 10000 in
theorem lc_2 {ad : xAd} {E : xE} {Q : Option Value → xSt → Prop} {b N k : Nat} {xs : Nat → Int32} {σ : xSt} (X : FX ad E code 4 RL x_tag 14 562) (hX : XS E b N xs) (hk : k + 6 ≤ N) (hN : N ≤ 384) (hR : RR σ) (kk : ∀ s1, RR s1 → KK ad E Q 1259 (LW ad b k) [] s1) : KK ad E Q 252 (LW ad b k) [] σ := by
  refine r_aload_n X (x_dr DL2 0 rfl) 1 rfl rfl ?_
  refine r_arg (j := 1) X hX (by omega) hN (by decide) (x_dr DL2 1 rfl) (x_dr DL2 2 rfl) (x_dr DL2 3 rfl) (x_dr DL2 4 rfl) (x_dr DL2 5 rfl) ?_
  refine r_callV (As := [.int (xs (k + 1))]) (n := 1) X (k6_undo (q_undo hR)) (o := 0) rfl (by decide) rfl ml_L_23 mi_6_undo mv_6_undo mn_6 mc_6_undo ⟨by decide +kernel, by decide +kernel, by decide +kernel⟩ rfl ⟨Nat.le_of_ble_eq_true rfl, Nat.le_of_ble_eq_true rfl⟩ (Nat.le_of_ble_eq_true rfl) (x_dr DL2 6 rfl) (fun v s1 h => ?_)
  obtain ⟨r1, rfl, h⟩ := h
  refine r_aload_n X (x_dr DL2 7 rfl) 2 rfl rfl ?_
  refine r_arg (j := 1) X hX (by omega) hN (by decide) (x_dr DL2 8 rfl) (x_dr DL2 9 rfl) (x_dr DL2 10 rfl) (x_dr DL2 11 rfl) (x_dr DL2 12 rfl) ?_
  refine r_callV (As := [.int (xs (k + 1))]) (n := 1) X (k7_undo h) (o := 13) rfl (by decide) rfl ml_L_26 mi_7_undo mv_7_undo mn_7 mc_7_undo ⟨by decide +kernel, by decide +kernel, by decide +kernel⟩ rfl ⟨Nat.le_of_ble_eq_true rfl, Nat.le_of_ble_eq_true rfl⟩ (Nat.le_of_ble_eq_true rfl) (x_dr DL2 13 rfl) (fun v s2 h => ?_)
  obtain ⟨r2, rfl, e, h⟩ := h
  subst e
  refine r_icmp_eq X 1259 (x_dr DL2 14 rfl) (by decide) (fun _ => kk s2 h) (fun c9 => absurd rfl c9)
set_option maxHeartbeats 4000000 in
set_option maxRecDepth 10000 in
theorem lc_3 {ad : xAd} {E : xE} {Q : Option Value → xSt → Prop} {b N k : Nat} {xs : Nat → Int32} {σ : xSt} (X : FX ad E code 4 RL x_tag 14 562) (hX : XS E b N xs) (hk : k + 6 ≤ N) (hN : N ≤ 384) (hR : RR σ) (kk : ∀ s1, RR s1 → KK ad E Q 1259 (LW ad b k) [] s1) : KK ad E Q 275 (LW ad b k) [] σ := by
  refine r_aload_n X (x_dr DL3 0 rfl) 1 rfl rfl ?_
  refine r_arg (j := 1) X hX (by omega) hN (by decide) (x_dr DL3 1 rfl) (x_dr DL3 2 rfl) (x_dr DL3 3 rfl) (x_dr DL3 4 rfl) (x_dr DL3 5 rfl) ?_
  refine r_callV (As := [.int (xs (k + 1))]) (n := 1) X (k6_fault (q_fault hR)) (o := 0) rfl (by decide) rfl ml_L_27 mi_6_fault mv_6_fault mn_6 mc_6_fault ⟨by decide +kernel, by decide +kernel, by decide +kernel⟩ rfl ⟨Nat.le_of_ble_eq_true rfl, Nat.le_of_ble_eq_true rfl⟩ (Nat.le_of_ble_eq_true rfl) (x_dr DL3 6 rfl) (fun v s1 h => ?_)
  obtain ⟨r1, rfl, h⟩ := h
  refine r_aload_n X (x_dr DL3 7 rfl) 2 rfl rfl ?_
  refine r_arg (j := 1) X hX (by omega) hN (by decide) (x_dr DL3 8 rfl) (x_dr DL3 9 rfl) (x_dr DL3 10 rfl) (x_dr DL3 11 rfl) (x_dr DL3 12 rfl) ?_
  refine r_callV (As := [.int (xs (k + 1))]) (n := 1) X (k7_fault h) (o := 13) rfl (by decide) rfl ml_L_30 mi_7_fault mv_7_fault mn_7 mc_7_fault ⟨by decide +kernel, by decide +kernel, by decide +kernel⟩ rfl ⟨Nat.le_of_ble_eq_true rfl, Nat.le_of_ble_eq_true rfl⟩ (Nat.le_of_ble_eq_true rfl) (x_dr DL3 13 rfl) (fun v s2 h => ?_)
  obtain ⟨r2, rfl, e, h⟩ := h
  subst e
  refine r_icmp_eq X 1259 (x_dr DL3 14 rfl) (by decide) (fun _ => kk s2 h) (fun c9 => absurd rfl c9)
set_option maxHeartbeats 4000000 in
set_option maxRecDepth 10000 in
theorem lc_4 {ad : xAd} {E : xE} {Q : Option Value → xSt → Prop} {b N k : Nat} {xs : Nat → Int32} {σ : xSt} (X : FX ad E code 4 RL x_tag 14 562) (hX : XS E b N xs) (hk : k + 6 ≤ N) (hN : N ≤ 384) (hR : RR σ) (kk : ∀ s1, RR s1 → KK ad E Q 1259 (LW ad b k) [] s1) : KK ad E Q 298 (LW ad b k) [] σ := by
  refine r_aload_n X (x_dr DL4 0 rfl) 1 rfl rfl ?_
  refine r_arg (j := 1) X hX (by omega) hN (by decide) (x_dr DL4 1 rfl) (x_dr DL4 2 rfl) (x_dr DL4 3 rfl) (x_dr DL4 4 rfl) (x_dr DL4 5 rfl) ?_
  refine r_callV (As := [.int (xs (k + 1))]) (n := 1) X (k6_stone (q_stone hR)) (o := 0) rfl (by decide) rfl ml_L_31 mi_6_stone mv_6_stone mn_6 mc_6_stone ⟨by decide +kernel, by decide +kernel, by decide +kernel⟩ rfl ⟨Nat.le_of_ble_eq_true rfl, Nat.le_of_ble_eq_true rfl⟩ (Nat.le_of_ble_eq_true rfl) (x_dr DL4 6 rfl) (fun v s1 h => ?_)
  obtain ⟨r1, rfl, h⟩ := h
  refine r_aload_n X (x_dr DL4 7 rfl) 2 rfl rfl ?_
  refine r_arg (j := 1) X hX (by omega) hN (by decide) (x_dr DL4 8 rfl) (x_dr DL4 9 rfl) (x_dr DL4 10 rfl) (x_dr DL4 11 rfl) (x_dr DL4 12 rfl) ?_
  refine r_callV (As := [.int (xs (k + 1))]) (n := 1) X (k7_stone h) (o := 13) rfl (by decide) rfl ml_L_34 mi_7_stone mv_7_stone mn_7 mc_7_stone ⟨by decide +kernel, by decide +kernel, by decide +kernel⟩ rfl ⟨Nat.le_of_ble_eq_true rfl, Nat.le_of_ble_eq_true rfl⟩ (Nat.le_of_ble_eq_true rfl) (x_dr DL4 13 rfl) (fun v s2 h => ?_)
  obtain ⟨r2, rfl, e, h⟩ := h
  subst e
  refine r_icmp_eq X 1259 (x_dr DL4 14 rfl) (by decide) (fun _ => kk s2 h) (fun c9 => absurd rfl c9)
set_option maxHeartbeats 4000000 in
set_option maxRecDepth 10000 in
theorem lc_5 {ad : xAd} {E : xE} {Q : Option Value → xSt → Prop} {b N k : Nat} {xs : Nat → Int32} {σ : xSt} (X : FX ad E code 4 RL x_tag 14 562) (hX : XS E b N xs) (hk : k + 6 ≤ N) (hN : N ≤ 384) (hR : RR σ) (kk : ∀ s1, RR s1 → KK ad E Q 1259 (LW ad b k) [] s1) : KK ad E Q 321 (LW ad b k) [] σ := by
  refine r_aload_n X (x_dr DL5 0 rfl) 1 rfl rfl ?_
  refine r_arg (j := 1) X hX (by omega) hN (by decide) (x_dr DL5 1 rfl) (x_dr DL5 2 rfl) (x_dr DL5 3 rfl) (x_dr DL5 4 rfl) (x_dr DL5 5 rfl) ?_
  refine r_arg (j := 2) X hX (by omega) hN (by decide) (x_dr DL5 6 rfl) (x_dr DL5 7 rfl) (x_dr DL5 8 rfl) (x_dr DL5 9 rfl) (x_dr DL5 10 rfl) ?_
  refine r_callV (As := [.int (xs (k + 1)), .int (xs (k + 2))]) (n := 2) X (k6_member (q_member hR)) (o := 0) rfl (by decide) rfl ml_L_35 mi_6_member mv_6_member mn_6 mc_6_member ⟨by decide +kernel, by decide +kernel, by decide +kernel⟩ rfl ⟨Nat.le_of_ble_eq_true rfl, Nat.le_of_ble_eq_true rfl⟩ (Nat.le_of_ble_eq_true rfl) (x_dr DL5 11 rfl) (fun v s1 h => ?_)
  obtain ⟨r1, rfl, h⟩ := h
  refine r_aload_n X (x_dr DL5 12 rfl) 2 rfl rfl ?_
  refine r_arg (j := 1) X hX (by omega) hN (by decide) (x_dr DL5 13 rfl) (x_dr DL5 14 rfl) (x_dr DL5 15 rfl) (x_dr DL5 16 rfl) (x_dr DL5 17 rfl) ?_
  refine r_arg (j := 2) X hX (by omega) hN (by decide) (x_dr DL5 18 rfl) (x_dr DL5 19 rfl) (x_dr DL5 20 rfl) (x_dr DL5 21 rfl) (x_dr DL5 22 rfl) ?_
  refine r_callV (As := [.int (xs (k + 1)), .int (xs (k + 2))]) (n := 2) X (k7_member h) (o := 13) rfl (by decide) rfl ml_L_38 mi_7_member mv_7_member mn_7 mc_7_member ⟨by decide +kernel, by decide +kernel, by decide +kernel⟩ rfl ⟨Nat.le_of_ble_eq_true rfl, Nat.le_of_ble_eq_true rfl⟩ (Nat.le_of_ble_eq_true rfl) (x_dr DL5 23 rfl) (fun v s2 h => ?_)
  obtain ⟨r2, rfl, e, h⟩ := h
  subst e
  refine r_icmp_eq X 1259 (x_dr DL5 24 rfl) (by decide) (fun _ => kk s2 h) (fun c9 => absurd rfl c9)
set_option maxHeartbeats 4000000 in
set_option maxRecDepth 10000 in
theorem lc_6 {ad : xAd} {E : xE} {Q : Option Value → xSt → Prop} {b N k : Nat} {xs : Nat → Int32} {σ : xSt} (X : FX ad E code 4 RL x_tag 14 562) (hX : XS E b N xs) (hk : k + 6 ≤ N) (hN : N ≤ 384) (hR : RR σ) (kk : ∀ s1, RR s1 → KK ad E Q 1259 (LW ad b k) [] s1) : KK ad E Q 354 (LW ad b k) [] σ := by
  refine r_aload_n X (x_dr DL6 0 rfl) 1 rfl rfl ?_
  refine r_arg (j := 1) X hX (by omega) hN (by decide) (x_dr DL6 1 rfl) (x_dr DL6 2 rfl) (x_dr DL6 3 rfl) (x_dr DL6 4 rfl) (x_dr DL6 5 rfl) ?_
  refine r_arg (j := 2) X hX (by omega) hN (by decide) (x_dr DL6 6 rfl) (x_dr DL6 7 rfl) (x_dr DL6 8 rfl) (x_dr DL6 9 rfl) (x_dr DL6 10 rfl) ?_
  refine r_arg (j := 3) X hX (by omega) hN (by decide) (x_dr DL6 11 rfl) (x_dr DL6 12 rfl) (x_dr DL6 13 rfl) (x_dr DL6 14 rfl) (x_dr DL6 15 rfl) ?_
  refine r_callV (As := [.int (xs (k + 1)), .int (xs (k + 2)), .int (xs (k + 3))]) (n := 3) X (k6_event (q_event hR)) (o := 0) rfl (by decide) rfl ml_L_39 mi_6_event mv_6_event mn_6 mc_6_event ⟨by decide +kernel, by decide +kernel, by decide +kernel⟩ rfl ⟨Nat.le_of_ble_eq_true rfl, Nat.le_of_ble_eq_true rfl⟩ (Nat.le_of_ble_eq_true rfl) (x_dr DL6 16 rfl) (fun v s1 h => ?_)
  obtain ⟨r1, rfl, h⟩ := h
  refine r_aload_n X (x_dr DL6 17 rfl) 2 rfl rfl ?_
  refine r_arg (j := 1) X hX (by omega) hN (by decide) (x_dr DL6 18 rfl) (x_dr DL6 19 rfl) (x_dr DL6 20 rfl) (x_dr DL6 21 rfl) (x_dr DL6 22 rfl) ?_
  refine r_arg (j := 2) X hX (by omega) hN (by decide) (x_dr DL6 23 rfl) (x_dr DL6 24 rfl) (x_dr DL6 25 rfl) (x_dr DL6 26 rfl) (x_dr DL6 27 rfl) ?_
  refine r_arg (j := 3) X hX (by omega) hN (by decide) (x_dr DL6 28 rfl) (x_dr DL6 29 rfl) (x_dr DL6 30 rfl) (x_dr DL6 31 rfl) (x_dr DL6 32 rfl) ?_
  refine r_callV (As := [.int (xs (k + 1)), .int (xs (k + 2)), .int (xs (k + 3))]) (n := 3) X (k7_event h) (o := 13) rfl (by decide) rfl ml_L_43 mi_7_event mv_7_event mn_7 mc_7_event ⟨by decide +kernel, by decide +kernel, by decide +kernel⟩ rfl ⟨Nat.le_of_ble_eq_true rfl, Nat.le_of_ble_eq_true rfl⟩ (Nat.le_of_ble_eq_true rfl) (x_dr DL6 33 rfl) (fun v s2 h => ?_)
  obtain ⟨r2, rfl, e, h⟩ := h
  subst e
  refine r_icmp_eq X 1259 (x_dr DL6 34 rfl) (by decide) (fun _ => kk s2 h) (fun c9 => absurd rfl c9)
set_option maxHeartbeats 4000000 in
set_option maxRecDepth 10000 in
theorem lc_7 {ad : xAd} {E : xE} {Q : Option Value → xSt → Prop} {b N k : Nat} {xs : Nat → Int32} {σ : xSt} (X : FX ad E code 4 RL x_tag 14 562) (hX : XS E b N xs) (hk : k + 6 ≤ N) (hN : N ≤ 384) (hR : RR σ) (kk : ∀ s1, RR s1 → KK ad E Q 1259 (LW ad b k) [] s1) : KK ad E Q 397 (LW ad b k) [] σ := by
  refine r_aload_n X (x_dr DL7 0 rfl) 1 rfl rfl ?_
  refine r_callV (As := []) (n := 0) X (k6_back (q_back hR)) (o := 0) rfl (by decide) rfl ml_L_44 mi_6_back mv_6_back mn_6 mc_6_back ⟨by decide +kernel, by decide +kernel, by decide +kernel⟩ rfl ⟨Nat.le_of_ble_eq_true rfl, Nat.le_of_ble_eq_true rfl⟩ (Nat.le_of_ble_eq_true rfl) (x_dr DL7 1 rfl) (fun v s1 h => ?_)
  obtain ⟨r1, rfl, h⟩ := h
  refine r_aload_n X (x_dr DL7 2 rfl) 2 rfl rfl ?_
  refine r_callV (As := []) (n := 0) X (k7_back h) (o := 13) rfl (by decide) rfl ml_L_48 mi_7_back mv_7_back mn_7 mc_7_back ⟨by decide +kernel, by decide +kernel, by decide +kernel⟩ rfl ⟨Nat.le_of_ble_eq_true rfl, Nat.le_of_ble_eq_true rfl⟩ (Nat.le_of_ble_eq_true rfl) (x_dr DL7 3 rfl) (fun v s2 h => ?_)
  obtain ⟨r2, rfl, e, h⟩ := h
  subst e
  refine r_icmp_eq X 1259 (x_dr DL7 4 rfl) (by decide) (fun _ => kk s2 h) (fun c9 => absurd rfl c9)
set_option maxHeartbeats 4000000 in
set_option maxRecDepth 10000 in
theorem lc_8 {ad : xAd} {E : xE} {Q : Option Value → xSt → Prop} {b N k : Nat} {xs : Nat → Int32} {σ : xSt} (X : FX ad E code 4 RL x_tag 14 562) (hX : XS E b N xs) (hk : k + 6 ≤ N) (hN : N ≤ 384) (hR : RR σ) (kk : ∀ s1, RR s1 → KK ad E Q 1259 (LW ad b k) [] s1) : KK ad E Q 410 (LW ad b k) [] σ := by
  refine r_aload_n X (x_dr DL8 0 rfl) 1 rfl rfl ?_
  refine r_arg (j := 1) X hX (by omega) hN (by decide) (x_dr DL8 1 rfl) (x_dr DL8 2 rfl) (x_dr DL8 3 rfl) (x_dr DL8 4 rfl) (x_dr DL8 5 rfl) ?_
  refine r_callV (As := [.int (xs (k + 1))]) (n := 1) X (k6_read (q_read hR)) (o := 0) rfl (by decide) rfl ml_L_49 mi_6_read mv_6_read mn_6 mc_6_read ⟨by decide +kernel, by decide +kernel, by decide +kernel⟩ rfl ⟨Nat.le_of_ble_eq_true rfl, Nat.le_of_ble_eq_true rfl⟩ (Nat.le_of_ble_eq_true rfl) (x_dr DL8 6 rfl) (fun v s1 h => ?_)
  obtain ⟨r1, rfl, h⟩ := h
  refine r_aload_n X (x_dr DL8 7 rfl) 2 rfl rfl ?_
  refine r_arg (j := 1) X hX (by omega) hN (by decide) (x_dr DL8 8 rfl) (x_dr DL8 9 rfl) (x_dr DL8 10 rfl) (x_dr DL8 11 rfl) (x_dr DL8 12 rfl) ?_
  refine r_callV (As := [.int (xs (k + 1))]) (n := 1) X (k7_read h) (o := 13) rfl (by decide) rfl ml_L_52 mi_7_read mv_7_read mn_7 mc_7_read ⟨by decide +kernel, by decide +kernel, by decide +kernel⟩ rfl ⟨Nat.le_of_ble_eq_true rfl, Nat.le_of_ble_eq_true rfl⟩ (Nat.le_of_ble_eq_true rfl) (x_dr DL8 13 rfl) (fun v s2 h => ?_)
  obtain ⟨r2, rfl, e, h⟩ := h
  subst e
  refine r_icmp_eq X 1259 (x_dr DL8 14 rfl) (by decide) (fun _ => kk s2 h) (fun c9 => absurd rfl c9)
set_option maxHeartbeats 4000000 in
set_option maxRecDepth 10000 in
theorem lc_9 {ad : xAd} {E : xE} {Q : Option Value → xSt → Prop} {b N k : Nat} {xs : Nat → Int32} {σ : xSt} (X : FX ad E code 4 RL x_tag 14 562) (hX : XS E b N xs) (hk : k + 6 ≤ N) (hN : N ≤ 384) (hR : RR σ) (kk : ∀ s1, RR s1 → KK ad E Q 1259 (LW ad b k) [] s1) : KK ad E Q 433 (LW ad b k) [] σ := by
  refine r_aload_n X (x_dr DL9 0 rfl) 1 rfl rfl ?_
  refine r_arg (j := 1) X hX (by omega) hN (by decide) (x_dr DL9 1 rfl) (x_dr DL9 2 rfl) (x_dr DL9 3 rfl) (x_dr DL9 4 rfl) (x_dr DL9 5 rfl) ?_
  refine r_arg (j := 2) X hX (by omega) hN (by decide) (x_dr DL9 6 rfl) (x_dr DL9 7 rfl) (x_dr DL9 8 rfl) (x_dr DL9 9 rfl) (x_dr DL9 10 rfl) ?_
  refine r_arg (j := 3) X hX (by omega) hN (by decide) (x_dr DL9 11 rfl) (x_dr DL9 12 rfl) (x_dr DL9 13 rfl) (x_dr DL9 14 rfl) (x_dr DL9 15 rfl) ?_
  refine r_callV (As := [.int (xs (k + 1)), .int (xs (k + 2)), .int (xs (k + 3))]) (n := 3) X (k6_damp (q_damp hR)) (o := 0) rfl (by decide) rfl ml_L_53 mi_6_damp mv_6_damp mn_6 mc_6_damp ⟨by decide +kernel, by decide +kernel, by decide +kernel⟩ rfl ⟨Nat.le_of_ble_eq_true rfl, Nat.le_of_ble_eq_true rfl⟩ (Nat.le_of_ble_eq_true rfl) (x_dr DL9 16 rfl) (fun v s1 h => ?_)
  obtain ⟨r1, rfl, h⟩ := h
  refine r_aload_n X (x_dr DL9 17 rfl) 2 rfl rfl ?_
  refine r_arg (j := 1) X hX (by omega) hN (by decide) (x_dr DL9 18 rfl) (x_dr DL9 19 rfl) (x_dr DL9 20 rfl) (x_dr DL9 21 rfl) (x_dr DL9 22 rfl) ?_
  refine r_arg (j := 2) X hX (by omega) hN (by decide) (x_dr DL9 23 rfl) (x_dr DL9 24 rfl) (x_dr DL9 25 rfl) (x_dr DL9 26 rfl) (x_dr DL9 27 rfl) ?_
  refine r_arg (j := 3) X hX (by omega) hN (by decide) (x_dr DL9 28 rfl) (x_dr DL9 29 rfl) (x_dr DL9 30 rfl) (x_dr DL9 31 rfl) (x_dr DL9 32 rfl) ?_
  refine r_callV (As := [.int (xs (k + 1)), .int (xs (k + 2)), .int (xs (k + 3))]) (n := 3) X (k7_damp h) (o := 13) rfl (by decide) rfl ml_L_56 mi_7_damp mv_7_damp mn_7 mc_7_damp ⟨by decide +kernel, by decide +kernel, by decide +kernel⟩ rfl ⟨Nat.le_of_ble_eq_true rfl, Nat.le_of_ble_eq_true rfl⟩ (Nat.le_of_ble_eq_true rfl) (x_dr DL9 33 rfl) (fun v s2 h => ?_)
  obtain ⟨r2, rfl, e, h⟩ := h
  subst e
  refine r_icmp_eq X 1259 (x_dr DL9 34 rfl) (by decide) (fun _ => kk s2 h) (fun c9 => absurd rfl c9)
set_option maxHeartbeats 4000000 in
set_option maxRecDepth 10000 in
theorem lc_10 {ad : xAd} {E : xE} {Q : Option Value → xSt → Prop} {b N k : Nat} {xs : Nat → Int32} {σ : xSt} (X : FX ad E code 4 RL x_tag 14 562) (hX : XS E b N xs) (hk : k + 6 ≤ N) (hN : N ≤ 384) (hR : RR σ) (kk : ∀ s1, RR s1 → KK ad E Q 1259 (LW ad b k) [] s1) : KK ad E Q 476 (LW ad b k) [] σ := by
  refine r_aload_n X (x_dr DL10 0 rfl) 1 rfl rfl ?_
  refine r_arg (j := 1) X hX (by omega) hN (by decide) (x_dr DL10 1 rfl) (x_dr DL10 2 rfl) (x_dr DL10 3 rfl) (x_dr DL10 4 rfl) (x_dr DL10 5 rfl) ?_
  refine r_arg (j := 2) X hX (by omega) hN (by decide) (x_dr DL10 6 rfl) (x_dr DL10 7 rfl) (x_dr DL10 8 rfl) (x_dr DL10 9 rfl) (x_dr DL10 10 rfl) ?_
  refine r_arg (j := 3) X hX (by omega) hN (by decide) (x_dr DL10 11 rfl) (x_dr DL10 12 rfl) (x_dr DL10 13 rfl) (x_dr DL10 14 rfl) (x_dr DL10 15 rfl) ?_
  refine r_callV (As := [.int (xs (k + 1)), .int (xs (k + 2)), .int (xs (k + 3))]) (n := 3) X (k6_at (q_at hR)) (o := 0) rfl (by decide) rfl ml_L_57 mi_6_at mv_6_at mn_6 mc_6_at ⟨by decide +kernel, by decide +kernel, by decide +kernel⟩ rfl ⟨Nat.le_of_ble_eq_true rfl, Nat.le_of_ble_eq_true rfl⟩ (Nat.le_of_ble_eq_true rfl) (x_dr DL10 16 rfl) (fun v s1 h => ?_)
  obtain ⟨r1, rfl, h⟩ := h
  refine r_aload_n X (x_dr DL10 17 rfl) 2 rfl rfl ?_
  refine r_arg (j := 1) X hX (by omega) hN (by decide) (x_dr DL10 18 rfl) (x_dr DL10 19 rfl) (x_dr DL10 20 rfl) (x_dr DL10 21 rfl) (x_dr DL10 22 rfl) ?_
  refine r_arg (j := 2) X hX (by omega) hN (by decide) (x_dr DL10 23 rfl) (x_dr DL10 24 rfl) (x_dr DL10 25 rfl) (x_dr DL10 26 rfl) (x_dr DL10 27 rfl) ?_
  refine r_arg (j := 3) X hX (by omega) hN (by decide) (x_dr DL10 28 rfl) (x_dr DL10 29 rfl) (x_dr DL10 30 rfl) (x_dr DL10 31 rfl) (x_dr DL10 32 rfl) ?_
  refine r_callV (As := [.int (xs (k + 1)), .int (xs (k + 2)), .int (xs (k + 3))]) (n := 3) X (k7_at h) (o := 13) rfl (by decide) rfl ml_L_60 mi_7_at mv_7_at mn_7 mc_7_at ⟨by decide +kernel, by decide +kernel, by decide +kernel⟩ rfl ⟨Nat.le_of_ble_eq_true rfl, Nat.le_of_ble_eq_true rfl⟩ (Nat.le_of_ble_eq_true rfl) (x_dr DL10 33 rfl) (fun v s2 h => ?_)
  obtain ⟨r2, rfl, e, h⟩ := h
  subst e
  refine r_icmp_eq X 1259 (x_dr DL10 34 rfl) (by decide) (fun _ => kk s2 h) (fun c9 => absurd rfl c9)
set_option maxHeartbeats 4000000 in
set_option maxRecDepth 10000 in
theorem lc_11 {ad : xAd} {E : xE} {Q : Option Value → xSt → Prop} {b N k : Nat} {xs : Nat → Int32} {σ : xSt} (X : FX ad E code 4 RL x_tag 14 562) (hX : XS E b N xs) (hk : k + 6 ≤ N) (hN : N ≤ 384) (hR : RR σ) (kk : ∀ s1, RR s1 → KK ad E Q 1259 (LW ad b k) [] s1) : KK ad E Q 519 (LW ad b k) [] σ := by
  refine r_aload_n X (x_dr DL11 0 rfl) 1 rfl rfl ?_
  refine r_arg (j := 1) X hX (by omega) hN (by decide) (x_dr DL11 1 rfl) (x_dr DL11 2 rfl) (x_dr DL11 3 rfl) (x_dr DL11 4 rfl) (x_dr DL11 5 rfl) ?_
  refine r_arg (j := 2) X hX (by omega) hN (by decide) (x_dr DL11 6 rfl) (x_dr DL11 7 rfl) (x_dr DL11 8 rfl) (x_dr DL11 9 rfl) (x_dr DL11 10 rfl) ?_
  refine r_callV (As := [.int (xs (k + 1)), .int (xs (k + 2))]) (n := 2) X (k6_house (q_house hR)) (o := 0) rfl (by decide) rfl ml_L_61 mi_6_house mv_6_house mn_6 mc_6_house ⟨by decide +kernel, by decide +kernel, by decide +kernel⟩ rfl ⟨Nat.le_of_ble_eq_true rfl, Nat.le_of_ble_eq_true rfl⟩ (Nat.le_of_ble_eq_true rfl) (x_dr DL11 11 rfl) (fun v s1 h => ?_)
  obtain ⟨r1, rfl, h⟩ := h
  refine r_aload_n X (x_dr DL11 12 rfl) 2 rfl rfl ?_
  refine r_arg (j := 1) X hX (by omega) hN (by decide) (x_dr DL11 13 rfl) (x_dr DL11 14 rfl) (x_dr DL11 15 rfl) (x_dr DL11 16 rfl) (x_dr DL11 17 rfl) ?_
  refine r_arg (j := 2) X hX (by omega) hN (by decide) (x_dr DL11 18 rfl) (x_dr DL11 19 rfl) (x_dr DL11 20 rfl) (x_dr DL11 21 rfl) (x_dr DL11 22 rfl) ?_
  refine r_callV (As := [.int (xs (k + 1)), .int (xs (k + 2))]) (n := 2) X (k7_house h) (o := 13) rfl (by decide) rfl ml_L_64 mi_7_house mv_7_house mn_7 mc_7_house ⟨by decide +kernel, by decide +kernel, by decide +kernel⟩ rfl ⟨Nat.le_of_ble_eq_true rfl, Nat.le_of_ble_eq_true rfl⟩ (Nat.le_of_ble_eq_true rfl) (x_dr DL11 23 rfl) (fun v s2 h => ?_)
  obtain ⟨r2, rfl, e, h⟩ := h
  subst e
  refine r_icmp_eq X 1259 (x_dr DL11 24 rfl) (by decide) (fun _ => kk s2 h) (fun c9 => absurd rfl c9)
set_option maxHeartbeats 4000000 in
set_option maxRecDepth 10000 in
theorem lc_12 {ad : xAd} {E : xE} {Q : Option Value → xSt → Prop} {b N k : Nat} {xs : Nat → Int32} {σ : xSt} (X : FX ad E code 4 RL x_tag 14 562) (hX : XS E b N xs) (hk : k + 6 ≤ N) (hN : N ≤ 384) (hR : RR σ) (kk : ∀ s1, RR s1 → KK ad E Q 1259 (LW ad b k) [] s1) : KK ad E Q 552 (LW ad b k) [] σ := by
  refine r_aload_n X (x_dr DL12 0 rfl) 1 rfl rfl ?_
  refine r_callV (As := []) (n := 0) X (k6_governments (q_governments hR)) (o := 0) rfl (by decide) rfl ml_L_65 mi_6_governments mv_6_governments mn_6 mc_6_governments ⟨by decide +kernel, by decide +kernel, by decide +kernel⟩ rfl ⟨Nat.le_of_ble_eq_true rfl, Nat.le_of_ble_eq_true rfl⟩ (Nat.le_of_ble_eq_true rfl) (x_dr DL12 1 rfl) (fun v s1 h => ?_)
  obtain ⟨r1, rfl, h⟩ := h
  refine r_aload_n X (x_dr DL12 2 rfl) 2 rfl rfl ?_
  refine r_callV (As := []) (n := 0) X (k7_governments h) (o := 13) rfl (by decide) rfl ml_L_68 mi_7_governments mv_7_governments mn_7 mc_7_governments ⟨by decide +kernel, by decide +kernel, by decide +kernel⟩ rfl ⟨Nat.le_of_ble_eq_true rfl, Nat.le_of_ble_eq_true rfl⟩ (Nat.le_of_ble_eq_true rfl) (x_dr DL12 3 rfl) (fun v s2 h => ?_)
  obtain ⟨r2, rfl, e, h⟩ := h
  subst e
  refine r_icmp_eq X 1259 (x_dr DL12 4 rfl) (by decide) (fun _ => kk s2 h) (fun c9 => absurd rfl c9)
set_option maxHeartbeats 4000000 in
set_option maxRecDepth 10000 in
theorem lc_13 {ad : xAd} {E : xE} {Q : Option Value → xSt → Prop} {b N k : Nat} {xs : Nat → Int32} {σ : xSt} (X : FX ad E code 4 RL x_tag 14 562) (hX : XS E b N xs) (hk : k + 6 ≤ N) (hN : N ≤ 384) (hR : RR σ) (kk : ∀ s1, RR s1 → KK ad E Q 1259 (LW ad b k) [] s1) : KK ad E Q 565 (LW ad b k) [] σ := by
  refine r_aload_n X (x_dr DL13 0 rfl) 1 rfl rfl ?_
  refine r_callV (As := []) (n := 0) X (k6_carried (q_carried hR)) (o := 0) rfl (by decide) rfl ml_L_69 mi_6_carried mv_6_carried mn_6 mc_6_carried ⟨by decide +kernel, by decide +kernel, by decide +kernel⟩ rfl ⟨Nat.le_of_ble_eq_true rfl, Nat.le_of_ble_eq_true rfl⟩ (Nat.le_of_ble_eq_true rfl) (x_dr DL13 1 rfl) (fun v s1 h => ?_)
  obtain ⟨r1, rfl, h⟩ := h
  refine r_aload_n X (x_dr DL13 2 rfl) 2 rfl rfl ?_
  refine r_callV (As := []) (n := 0) X (k7_carried h) (o := 13) rfl (by decide) rfl ml_L_72 mi_7_carried mv_7_carried mn_7 mc_7_carried ⟨by decide +kernel, by decide +kernel, by decide +kernel⟩ rfl ⟨Nat.le_of_ble_eq_true rfl, Nat.le_of_ble_eq_true rfl⟩ (Nat.le_of_ble_eq_true rfl) (x_dr DL13 3 rfl) (fun v s2 h => ?_)
  obtain ⟨r2, rfl, e, h⟩ := h
  subst e
  refine r_icmp_eq X 1259 (x_dr DL13 4 rfl) (by decide) (fun _ => kk s2 h) (fun c9 => absurd rfl c9)
set_option maxHeartbeats 4000000 in
set_option maxRecDepth 10000 in
theorem lc_14 {ad : xAd} {E : xE} {Q : Option Value → xSt → Prop} {b N k : Nat} {xs : Nat → Int32} {σ : xSt} (X : FX ad E code 4 RL x_tag 14 562) (hX : XS E b N xs) (hk : k + 6 ≤ N) (hN : N ≤ 384) (hR : RR σ) (kk : ∀ s1, RR s1 → KK ad E Q 1259 (LW ad b k) [] s1) : KK ad E Q 578 (LW ad b k) [] σ := by
  refine r_aload_n X (x_dr DL14 0 rfl) 1 rfl rfl ?_
  refine r_arg (j := 1) X hX (by omega) hN (by decide) (x_dr DL14 1 rfl) (x_dr DL14 2 rfl) (x_dr DL14 3 rfl) (x_dr DL14 4 rfl) (x_dr DL14 5 rfl) ?_
  refine r_callV (As := [.int (xs (k + 1))]) (n := 1) X (k6_crowd (q_crowd hR)) (o := 0) rfl (by decide) rfl ml_L_73 mi_6_crowd mv_6_crowd mn_6 mc_6_crowd ⟨by decide +kernel, by decide +kernel, by decide +kernel⟩ rfl ⟨Nat.le_of_ble_eq_true rfl, Nat.le_of_ble_eq_true rfl⟩ (Nat.le_of_ble_eq_true rfl) (x_dr DL14 6 rfl) (fun v s1 h => ?_)
  obtain ⟨r1, rfl, h⟩ := h
  refine r_aload_n X (x_dr DL14 7 rfl) 2 rfl rfl ?_
  refine r_arg (j := 1) X hX (by omega) hN (by decide) (x_dr DL14 8 rfl) (x_dr DL14 9 rfl) (x_dr DL14 10 rfl) (x_dr DL14 11 rfl) (x_dr DL14 12 rfl) ?_
  refine r_callV (As := [.int (xs (k + 1))]) (n := 1) X (k7_crowd h) (o := 13) rfl (by decide) rfl ml_L_76 mi_7_crowd mv_7_crowd mn_7 mc_7_crowd ⟨by decide +kernel, by decide +kernel, by decide +kernel⟩ rfl ⟨Nat.le_of_ble_eq_true rfl, Nat.le_of_ble_eq_true rfl⟩ (Nat.le_of_ble_eq_true rfl) (x_dr DL14 13 rfl) (fun v s2 h => ?_)
  obtain ⟨r2, rfl, e, h⟩ := h
  subst e
  refine r_icmp_eq X 1259 (x_dr DL14 14 rfl) (by decide) (fun _ => kk s2 h) (fun c9 => absurd rfl c9)
set_option maxHeartbeats 4000000 in
set_option maxRecDepth 10000 in
theorem lc_15 {ad : xAd} {E : xE} {Q : Option Value → xSt → Prop} {b N k : Nat} {xs : Nat → Int32} {σ : xSt} (X : FX ad E code 4 RL x_tag 14 562) (hX : XS E b N xs) (hk : k + 6 ≤ N) (hN : N ≤ 384) (hR : RR σ) (kk : ∀ s1, RR s1 → KK ad E Q 1259 (LW ad b k) [] s1) : KK ad E Q 601 (LW ad b k) [] σ := by
  refine r_aload_n X (x_dr DL15 0 rfl) 1 rfl rfl ?_
  refine r_callV (As := []) (n := 0) X (k6_orator (q_orator hR)) (o := 0) rfl (by decide) rfl ml_L_77 mi_6_orator mv_6_orator mn_6 mc_6_orator ⟨by decide +kernel, by decide +kernel, by decide +kernel⟩ rfl ⟨Nat.le_of_ble_eq_true rfl, Nat.le_of_ble_eq_true rfl⟩ (Nat.le_of_ble_eq_true rfl) (x_dr DL15 1 rfl) (fun v s1 h => ?_)
  obtain ⟨r1, rfl, h⟩ := h
  refine r_aload_n X (x_dr DL15 2 rfl) 2 rfl rfl ?_
  refine r_callV (As := []) (n := 0) X (k7_orator h) (o := 13) rfl (by decide) rfl ml_L_80 mi_7_orator mv_7_orator mn_7 mc_7_orator ⟨by decide +kernel, by decide +kernel, by decide +kernel⟩ rfl ⟨Nat.le_of_ble_eq_true rfl, Nat.le_of_ble_eq_true rfl⟩ (Nat.le_of_ble_eq_true rfl) (x_dr DL15 3 rfl) (fun v s2 h => ?_)
  obtain ⟨r2, rfl, e, h⟩ := h
  subst e
  refine r_icmp_eq X 1259 (x_dr DL15 4 rfl) (by decide) (fun _ => kk s2 h) (fun c9 => absurd rfl c9)
set_option maxHeartbeats 4000000 in
set_option maxRecDepth 10000 in
theorem lc_16 {ad : xAd} {E : xE} {Q : Option Value → xSt → Prop} {b N k : Nat} {xs : Nat → Int32} {σ : xSt} (X : FX ad E code 4 RL x_tag 14 562) (hX : XS E b N xs) (hk : k + 6 ≤ N) (hN : N ≤ 384) (hR : RR σ) (kk : ∀ s1, RR s1 → KK ad E Q 1259 (LW ad b k) [] s1) : KK ad E Q 614 (LW ad b k) [] σ := by
  refine r_aload_n X (x_dr DL16 0 rfl) 1 rfl rfl ?_
  refine r_callV (As := []) (n := 0) X (k6_still (q_still hR)) (o := 0) rfl (by decide) rfl ml_L_81 mi_6_still mv_6_still mn_6 mc_6_still ⟨by decide +kernel, by decide +kernel, by decide +kernel⟩ rfl ⟨Nat.le_of_ble_eq_true rfl, Nat.le_of_ble_eq_true rfl⟩ (Nat.le_of_ble_eq_true rfl) (x_dr DL16 1 rfl) (fun v s1 h => ?_)
  obtain ⟨r1, rfl, h⟩ := h
  refine r_aload_n X (x_dr DL16 2 rfl) 2 rfl rfl ?_
  refine r_callV (As := []) (n := 0) X (k7_still h) (o := 13) rfl (by decide) rfl ml_L_84 mi_7_still mv_7_still mn_7 mc_7_still ⟨by decide +kernel, by decide +kernel, by decide +kernel⟩ rfl ⟨Nat.le_of_ble_eq_true rfl, Nat.le_of_ble_eq_true rfl⟩ (Nat.le_of_ble_eq_true rfl) (x_dr DL16 3 rfl) (fun v s2 h => ?_)
  obtain ⟨r2, rfl, e, h⟩ := h
  subst e
  refine r_icmp_eq X 1259 (x_dr DL16 4 rfl) (by decide) (fun _ => kk s2 h) (fun c9 => absurd rfl c9)
set_option maxHeartbeats 4000000 in
set_option maxRecDepth 10000 in
theorem lc_17 {ad : xAd} {E : xE} {Q : Option Value → xSt → Prop} {b N k : Nat} {xs : Nat → Int32} {σ : xSt} (X : FX ad E code 4 RL x_tag 14 562) (hX : XS E b N xs) (hk : k + 6 ≤ N) (hN : N ≤ 384) (hR : RR σ) (kk : ∀ s1, RR s1 → KK ad E Q 1259 (LW ad b k) [] s1) : KK ad E Q 627 (LW ad b k) [] σ := by
  refine r_aload_n X (x_dr DL17 0 rfl) 1 rfl rfl ?_
  refine r_arg (j := 1) X hX (by omega) hN (by decide) (x_dr DL17 1 rfl) (x_dr DL17 2 rfl) (x_dr DL17 3 rfl) (x_dr DL17 4 rfl) (x_dr DL17 5 rfl) ?_
  refine r_arg (j := 2) X hX (by omega) hN (by decide) (x_dr DL17 6 rfl) (x_dr DL17 7 rfl) (x_dr DL17 8 rfl) (x_dr DL17 9 rfl) (x_dr DL17 10 rfl) ?_
  refine r_callV (As := [.int (xs (k + 1)), .int (xs (k + 2))]) (n := 2) X (k6_seat (q_seat hR)) (o := 0) rfl (by decide) rfl ml_L_85 mi_6_seat mv_6_seat mn_6 mc_6_seat ⟨by decide +kernel, by decide +kernel, by decide +kernel⟩ rfl ⟨Nat.le_of_ble_eq_true rfl, Nat.le_of_ble_eq_true rfl⟩ (Nat.le_of_ble_eq_true rfl) (x_dr DL17 11 rfl) (fun v s1 h => ?_)
  obtain ⟨r1, rfl, h⟩ := h
  refine r_aload_n X (x_dr DL17 12 rfl) 2 rfl rfl ?_
  refine r_arg (j := 1) X hX (by omega) hN (by decide) (x_dr DL17 13 rfl) (x_dr DL17 14 rfl) (x_dr DL17 15 rfl) (x_dr DL17 16 rfl) (x_dr DL17 17 rfl) ?_
  refine r_arg (j := 2) X hX (by omega) hN (by decide) (x_dr DL17 18 rfl) (x_dr DL17 19 rfl) (x_dr DL17 20 rfl) (x_dr DL17 21 rfl) (x_dr DL17 22 rfl) ?_
  refine r_callV (As := [.int (xs (k + 1)), .int (xs (k + 2))]) (n := 2) X (k7_seat h) (o := 13) rfl (by decide) rfl ml_L_88 mi_7_seat mv_7_seat mn_7 mc_7_seat ⟨by decide +kernel, by decide +kernel, by decide +kernel⟩ rfl ⟨Nat.le_of_ble_eq_true rfl, Nat.le_of_ble_eq_true rfl⟩ (Nat.le_of_ble_eq_true rfl) (x_dr DL17 23 rfl) (fun v s2 h => ?_)
  obtain ⟨r2, rfl, e, h⟩ := h
  subst e
  refine r_icmp_eq X 1259 (x_dr DL17 24 rfl) (by decide) (fun _ => kk s2 h) (fun c9 => absurd rfl c9)
set_option maxHeartbeats 4000000 in
set_option maxRecDepth 10000 in
theorem lc_18 {ad : xAd} {E : xE} {Q : Option Value → xSt → Prop} {b N k : Nat} {xs : Nat → Int32} {σ : xSt} (X : FX ad E code 4 RL x_tag 14 562) (hX : XS E b N xs) (hk : k + 6 ≤ N) (hN : N ≤ 384) (hR : RR σ) (kk : ∀ s1, RR s1 → KK ad E Q 1259 (LW ad b k) [] s1) : KK ad E Q 660 (LW ad b k) [] σ := by
  refine r_aload_n X (x_dr DL18 0 rfl) 1 rfl rfl ?_
  refine r_arg (j := 1) X hX (by omega) hN (by decide) (x_dr DL18 1 rfl) (x_dr DL18 2 rfl) (x_dr DL18 3 rfl) (x_dr DL18 4 rfl) (x_dr DL18 5 rfl) ?_
  refine r_arg (j := 2) X hX (by omega) hN (by decide) (x_dr DL18 6 rfl) (x_dr DL18 7 rfl) (x_dr DL18 8 rfl) (x_dr DL18 9 rfl) (x_dr DL18 10 rfl) ?_
  refine r_callV (As := [.int (xs (k + 1)), .int (xs (k + 2))]) (n := 2) X (k6_dust (q_dust hR)) (o := 0) rfl (by decide) rfl ml_L_89 mi_6_dust mv_6_dust mn_6 mc_6_dust ⟨by decide +kernel, by decide +kernel, by decide +kernel⟩ rfl ⟨Nat.le_of_ble_eq_true rfl, Nat.le_of_ble_eq_true rfl⟩ (Nat.le_of_ble_eq_true rfl) (x_dr DL18 11 rfl) (fun v s1 h => ?_)
  obtain ⟨r1, rfl, h⟩ := h
  refine r_aload_n X (x_dr DL18 12 rfl) 2 rfl rfl ?_
  refine r_arg (j := 1) X hX (by omega) hN (by decide) (x_dr DL18 13 rfl) (x_dr DL18 14 rfl) (x_dr DL18 15 rfl) (x_dr DL18 16 rfl) (x_dr DL18 17 rfl) ?_
  refine r_arg (j := 2) X hX (by omega) hN (by decide) (x_dr DL18 18 rfl) (x_dr DL18 19 rfl) (x_dr DL18 20 rfl) (x_dr DL18 21 rfl) (x_dr DL18 22 rfl) ?_
  refine r_callV (As := [.int (xs (k + 1)), .int (xs (k + 2))]) (n := 2) X (k7_dust h) (o := 13) rfl (by decide) rfl ml_L_92 mi_7_dust mv_7_dust mn_7 mc_7_dust ⟨by decide +kernel, by decide +kernel, by decide +kernel⟩ rfl ⟨Nat.le_of_ble_eq_true rfl, Nat.le_of_ble_eq_true rfl⟩ (Nat.le_of_ble_eq_true rfl) (x_dr DL18 23 rfl) (fun v s2 h => ?_)
  obtain ⟨r2, rfl, e, h⟩ := h
  subst e
  refine r_icmp_eq X 1259 (x_dr DL18 24 rfl) (by decide) (fun _ => kk s2 h) (fun c9 => absurd rfl c9)
set_option maxHeartbeats 4000000 in
set_option maxRecDepth 10000 in
theorem lc_19 {ad : xAd} {E : xE} {Q : Option Value → xSt → Prop} {b N k : Nat} {xs : Nat → Int32} {σ : xSt} (X : FX ad E code 4 RL x_tag 14 562) (hX : XS E b N xs) (hk : k + 6 ≤ N) (hN : N ≤ 384) (hR : RR σ) (kk : ∀ s1, RR s1 → KK ad E Q 1259 (LW ad b k) [] s1) : KK ad E Q 693 (LW ad b k) [] σ := by
  refine r_aload_n X (x_dr DL19 0 rfl) 1 rfl rfl ?_
  refine r_arg (j := 1) X hX (by omega) hN (by decide) (x_dr DL19 1 rfl) (x_dr DL19 2 rfl) (x_dr DL19 3 rfl) (x_dr DL19 4 rfl) (x_dr DL19 5 rfl) ?_
  refine r_callV (As := [.int (xs (k + 1))]) (n := 1) X (k6_boy (q_boy hR)) (o := 0) rfl (by decide) rfl ml_L_93 mi_6_boy mv_6_boy mn_6 mc_6_boy ⟨by decide +kernel, by decide +kernel, by decide +kernel⟩ rfl ⟨Nat.le_of_ble_eq_true rfl, Nat.le_of_ble_eq_true rfl⟩ (Nat.le_of_ble_eq_true rfl) (x_dr DL19 6 rfl) (fun v s1 h => ?_)
  obtain ⟨r1, rfl, h⟩ := h
  refine r_aload_n X (x_dr DL19 7 rfl) 2 rfl rfl ?_
  refine r_arg (j := 1) X hX (by omega) hN (by decide) (x_dr DL19 8 rfl) (x_dr DL19 9 rfl) (x_dr DL19 10 rfl) (x_dr DL19 11 rfl) (x_dr DL19 12 rfl) ?_
  refine r_callV (As := [.int (xs (k + 1))]) (n := 1) X (k7_boy h) (o := 13) rfl (by decide) rfl ml_L_96 mi_7_boy mv_7_boy mn_7 mc_7_boy ⟨by decide +kernel, by decide +kernel, by decide +kernel⟩ rfl ⟨Nat.le_of_ble_eq_true rfl, Nat.le_of_ble_eq_true rfl⟩ (Nat.le_of_ble_eq_true rfl) (x_dr DL19 13 rfl) (fun v s2 h => ?_)
  obtain ⟨r2, rfl, e, h⟩ := h
  subst e
  refine r_icmp_eq X 1259 (x_dr DL19 14 rfl) (by decide) (fun _ => kk s2 h) (fun c9 => absurd rfl c9)
set_option maxHeartbeats 4000000 in
set_option maxRecDepth 10000 in
theorem lc_20 {ad : xAd} {E : xE} {Q : Option Value → xSt → Prop} {b N k : Nat} {xs : Nat → Int32} {σ : xSt} (X : FX ad E code 4 RL x_tag 14 562) (hX : XS E b N xs) (hk : k + 6 ≤ N) (hN : N ≤ 384) (hR : RR σ) (kk : ∀ s1, RR s1 → KK ad E Q 1259 (LW ad b k) [] s1) : KK ad E Q 716 (LW ad b k) [] σ := by
  refine r_aload_n X (x_dr DL20 0 rfl) 1 rfl rfl ?_
  refine r_arg (j := 1) X hX (by omega) hN (by decide) (x_dr DL20 1 rfl) (x_dr DL20 2 rfl) (x_dr DL20 3 rfl) (x_dr DL20 4 rfl) (x_dr DL20 5 rfl) ?_
  refine r_callV (As := [.int (xs (k + 1))]) (n := 1) X (k6_calm (q_calm hR)) (o := 0) rfl (by decide) rfl ml_L_97 mi_6_calm mv_6_calm mn_6 mc_6_calm ⟨by decide +kernel, by decide +kernel, by decide +kernel⟩ rfl ⟨Nat.le_of_ble_eq_true rfl, Nat.le_of_ble_eq_true rfl⟩ (Nat.le_of_ble_eq_true rfl) (x_dr DL20 6 rfl) (fun v s1 h => ?_)
  obtain ⟨r1, rfl, h⟩ := h
  refine r_aload_n X (x_dr DL20 7 rfl) 2 rfl rfl ?_
  refine r_arg (j := 1) X hX (by omega) hN (by decide) (x_dr DL20 8 rfl) (x_dr DL20 9 rfl) (x_dr DL20 10 rfl) (x_dr DL20 11 rfl) (x_dr DL20 12 rfl) ?_
  refine r_callV (As := [.int (xs (k + 1))]) (n := 1) X (k7_calm h) (o := 13) rfl (by decide) rfl ml_L_100 mi_7_calm mv_7_calm mn_7 mc_7_calm ⟨by decide +kernel, by decide +kernel, by decide +kernel⟩ rfl ⟨Nat.le_of_ble_eq_true rfl, Nat.le_of_ble_eq_true rfl⟩ (Nat.le_of_ble_eq_true rfl) (x_dr DL20 13 rfl) (fun v s2 h => ?_)
  obtain ⟨r2, rfl, e, h⟩ := h
  subst e
  refine r_icmp_eq X 1259 (x_dr DL20 14 rfl) (by decide) (fun _ => kk s2 h) (fun c9 => absurd rfl c9)
set_option maxHeartbeats 4000000 in
set_option maxRecDepth 10000 in
theorem lc_21 {ad : xAd} {E : xE} {Q : Option Value → xSt → Prop} {b N k : Nat} {xs : Nat → Int32} {σ : xSt} (X : FX ad E code 4 RL x_tag 14 562) (hX : XS E b N xs) (hk : k + 6 ≤ N) (hN : N ≤ 384) (hR : RR σ) (kk : ∀ s1, RR s1 → KK ad E Q 1259 (LW ad b k) [] s1) : KK ad E Q 739 (LW ad b k) [] σ := by
  refine r_aload_n X (x_dr DL21 0 rfl) 1 rfl rfl ?_
  refine r_arg (j := 1) X hX (by omega) hN (by decide) (x_dr DL21 1 rfl) (x_dr DL21 2 rfl) (x_dr DL21 3 rfl) (x_dr DL21 4 rfl) (x_dr DL21 5 rfl) ?_
  refine r_arg (j := 2) X hX (by omega) hN (by decide) (x_dr DL21 6 rfl) (x_dr DL21 7 rfl) (x_dr DL21 8 rfl) (x_dr DL21 9 rfl) (x_dr DL21 10 rfl) ?_
  refine r_arg (j := 3) X hX (by omega) hN (by decide) (x_dr DL21 11 rfl) (x_dr DL21 12 rfl) (x_dr DL21 13 rfl) (x_dr DL21 14 rfl) (x_dr DL21 15 rfl) ?_
  refine r_callV (As := [.int (xs (k + 1)), .int (xs (k + 2)), .int (xs (k + 3))]) (n := 3) X (k6_seen (q_seen hR)) (o := 0) rfl (by decide) rfl ml_L_101 mi_6_seen mv_6_seen mn_6 mc_6_seen ⟨by decide +kernel, by decide +kernel, by decide +kernel⟩ rfl ⟨Nat.le_of_ble_eq_true rfl, Nat.le_of_ble_eq_true rfl⟩ (Nat.le_of_ble_eq_true rfl) (x_dr DL21 16 rfl) (fun v s1 h => ?_)
  obtain ⟨r1, rfl, h⟩ := h
  refine r_aload_n X (x_dr DL21 17 rfl) 2 rfl rfl ?_
  refine r_arg (j := 1) X hX (by omega) hN (by decide) (x_dr DL21 18 rfl) (x_dr DL21 19 rfl) (x_dr DL21 20 rfl) (x_dr DL21 21 rfl) (x_dr DL21 22 rfl) ?_
  refine r_arg (j := 2) X hX (by omega) hN (by decide) (x_dr DL21 23 rfl) (x_dr DL21 24 rfl) (x_dr DL21 25 rfl) (x_dr DL21 26 rfl) (x_dr DL21 27 rfl) ?_
  refine r_arg (j := 3) X hX (by omega) hN (by decide) (x_dr DL21 28 rfl) (x_dr DL21 29 rfl) (x_dr DL21 30 rfl) (x_dr DL21 31 rfl) (x_dr DL21 32 rfl) ?_
  refine r_callV (As := [.int (xs (k + 1)), .int (xs (k + 2)), .int (xs (k + 3))]) (n := 3) X (k7_seen h) (o := 13) rfl (by decide) rfl ml_L_104 mi_7_seen mv_7_seen mn_7 mc_7_seen ⟨by decide +kernel, by decide +kernel, by decide +kernel⟩ rfl ⟨Nat.le_of_ble_eq_true rfl, Nat.le_of_ble_eq_true rfl⟩ (Nat.le_of_ble_eq_true rfl) (x_dr DL21 33 rfl) (fun v s2 h => ?_)
  obtain ⟨r2, rfl, e, h⟩ := h
  subst e
  refine r_icmp_eq X 1259 (x_dr DL21 34 rfl) (by decide) (fun _ => kk s2 h) (fun c9 => absurd rfl c9)
set_option maxHeartbeats 4000000 in
set_option maxRecDepth 10000 in
theorem lc_22 {ad : xAd} {E : xE} {Q : Option Value → xSt → Prop} {b N k : Nat} {xs : Nat → Int32} {σ : xSt} (X : FX ad E code 4 RL x_tag 14 562) (hX : XS E b N xs) (hk : k + 6 ≤ N) (hN : N ≤ 384) (hR : RR σ) (kk : ∀ s1, RR s1 → KK ad E Q 1259 (LW ad b k) [] s1) : KK ad E Q 782 (LW ad b k) [] σ := by
  refine r_aload_n X (x_dr DL22 0 rfl) 1 rfl rfl ?_
  refine r_callV (As := []) (n := 0) X (k6_forget (q_forget hR)) (o := 0) rfl (by decide) rfl ml_L_105 mi_6_forget mv_6_forget mn_6 mc_6_forget ⟨by decide +kernel, by decide +kernel, by decide +kernel⟩ rfl ⟨Nat.le_of_ble_eq_true rfl, Nat.le_of_ble_eq_true rfl⟩ (Nat.le_of_ble_eq_true rfl) (x_dr DL22 1 rfl) (fun v s1 h => ?_)
  obtain ⟨r1, rfl, h⟩ := h
  refine r_aload_n X (x_dr DL22 2 rfl) 2 rfl rfl ?_
  refine r_callV (As := []) (n := 0) X (k7_forget h) (o := 13) rfl (by decide) rfl ml_L_108 mi_7_forget mv_7_forget mn_7 mc_7_forget ⟨by decide +kernel, by decide +kernel, by decide +kernel⟩ rfl ⟨Nat.le_of_ble_eq_true rfl, Nat.le_of_ble_eq_true rfl⟩ (Nat.le_of_ble_eq_true rfl) (x_dr DL22 3 rfl) (fun v s2 h => ?_)
  obtain ⟨r2, rfl, e, h⟩ := h
  subst e
  refine r_icmp_eq X 1259 (x_dr DL22 4 rfl) (by decide) (fun _ => kk s2 h) (fun c9 => absurd rfl c9)
set_option maxHeartbeats 4000000 in
set_option maxRecDepth 10000 in
theorem lc_23 {ad : xAd} {E : xE} {Q : Option Value → xSt → Prop} {b N k : Nat} {xs : Nat → Int32} {σ : xSt} (X : FX ad E code 4 RL x_tag 14 562) (hX : XS E b N xs) (hk : k + 6 ≤ N) (hN : N ≤ 384) (hR : RR σ) (kk : ∀ s1, RR s1 → KK ad E Q 1259 (LW ad b k) [] s1) : KK ad E Q 795 (LW ad b k) [] σ := by
  refine r_aload_n X (x_dr DL23 0 rfl) 1 rfl rfl ?_
  refine r_callV (As := []) (n := 0) X (k6_never (q_never hR)) (o := 0) rfl (by decide) rfl ml_L_109 mi_6_never mv_6_never mn_6 mc_6_never ⟨by decide +kernel, by decide +kernel, by decide +kernel⟩ rfl ⟨Nat.le_of_ble_eq_true rfl, Nat.le_of_ble_eq_true rfl⟩ (Nat.le_of_ble_eq_true rfl) (x_dr DL23 1 rfl) (fun v s1 h => ?_)
  obtain ⟨r1, rfl, h⟩ := h
  refine r_aload_n X (x_dr DL23 2 rfl) 2 rfl rfl ?_
  refine r_callV (As := []) (n := 0) X (k7_never h) (o := 13) rfl (by decide) rfl ml_L_112 mi_7_never mv_7_never mn_7 mc_7_never ⟨by decide +kernel, by decide +kernel, by decide +kernel⟩ rfl ⟨Nat.le_of_ble_eq_true rfl, Nat.le_of_ble_eq_true rfl⟩ (Nat.le_of_ble_eq_true rfl) (x_dr DL23 3 rfl) (fun v s2 h => ?_)
  obtain ⟨r2, rfl, e, h⟩ := h
  subst e
  refine r_icmp_eq X 1259 (x_dr DL23 4 rfl) (by decide) (fun _ => kk s2 h) (fun c9 => absurd rfl c9)
set_option maxHeartbeats 4000000 in
set_option maxRecDepth 10000 in
theorem lc_24 {ad : xAd} {E : xE} {Q : Option Value → xSt → Prop} {b N k : Nat} {xs : Nat → Int32} {σ : xSt} (X : FX ad E code 4 RL x_tag 14 562) (hX : XS E b N xs) (hk : k + 6 ≤ N) (hN : N ≤ 384) (hR : RR σ) (kk : ∀ s1, RR s1 → KK ad E Q 1259 (LW ad b k) [] s1) : KK ad E Q 808 (LW ad b k) [] σ := by
  refine r_aload_n X (x_dr DL24 0 rfl) 1 rfl rfl ?_
  refine r_arg (j := 1) X hX (by omega) hN (by decide) (x_dr DL24 1 rfl) (x_dr DL24 2 rfl) (x_dr DL24 3 rfl) (x_dr DL24 4 rfl) (x_dr DL24 5 rfl) ?_
  refine r_callV (As := [.int (xs (k + 1))]) (n := 1) X (k6_sort (q_sort hR)) (o := 0) rfl (by decide) rfl ml_L_113 mi_6_sort mv_6_sort mn_6 mc_6_sort ⟨by decide +kernel, by decide +kernel, by decide +kernel⟩ rfl ⟨Nat.le_of_ble_eq_true rfl, Nat.le_of_ble_eq_true rfl⟩ (Nat.le_of_ble_eq_true rfl) (x_dr DL24 6 rfl) (fun v s1 h => ?_)
  obtain ⟨r1, rfl, h⟩ := h
  refine r_aload_n X (x_dr DL24 7 rfl) 2 rfl rfl ?_
  refine r_arg (j := 1) X hX (by omega) hN (by decide) (x_dr DL24 8 rfl) (x_dr DL24 9 rfl) (x_dr DL24 10 rfl) (x_dr DL24 11 rfl) (x_dr DL24 12 rfl) ?_
  refine r_callV (As := [.int (xs (k + 1))]) (n := 1) X (k7_sort h) (o := 13) rfl (by decide) rfl ml_L_116 mi_7_sort mv_7_sort mn_7 mc_7_sort ⟨by decide +kernel, by decide +kernel, by decide +kernel⟩ rfl ⟨Nat.le_of_ble_eq_true rfl, Nat.le_of_ble_eq_true rfl⟩ (Nat.le_of_ble_eq_true rfl) (x_dr DL24 13 rfl) (fun v s2 h => ?_)
  obtain ⟨r2, rfl, e, h⟩ := h
  subst e
  refine r_icmp_eq X 1259 (x_dr DL24 14 rfl) (by decide) (fun _ => kk s2 h) (fun c9 => absurd rfl c9)
set_option maxHeartbeats 4000000 in
set_option maxRecDepth 10000 in
theorem lc_25 {ad : xAd} {E : xE} {Q : Option Value → xSt → Prop} {b N k : Nat} {xs : Nat → Int32} {σ : xSt} (X : FX ad E code 4 RL x_tag 14 562) (hX : XS E b N xs) (hk : k + 6 ≤ N) (hN : N ≤ 384) (hR : RR σ) (kk : ∀ s1, RR s1 → KK ad E Q 1259 (LW ad b k) [] s1) : KK ad E Q 831 (LW ad b k) [] σ := by
  refine r_aload_n X (x_dr DL25 0 rfl) 1 rfl rfl ?_
  refine r_arg (j := 1) X hX (by omega) hN (by decide) (x_dr DL25 1 rfl) (x_dr DL25 2 rfl) (x_dr DL25 3 rfl) (x_dr DL25 4 rfl) (x_dr DL25 5 rfl) ?_
  refine r_callV (As := [.int (xs (k + 1))]) (n := 1) X (k6_wet (q_wet hR)) (o := 0) rfl (by decide) rfl ml_L_117 mi_6_wet mv_6_wet mn_6 mc_6_wet ⟨by decide +kernel, by decide +kernel, by decide +kernel⟩ rfl ⟨Nat.le_of_ble_eq_true rfl, Nat.le_of_ble_eq_true rfl⟩ (Nat.le_of_ble_eq_true rfl) (x_dr DL25 6 rfl) (fun v s1 h => ?_)
  obtain ⟨r1, rfl, h⟩ := h
  refine r_aload_n X (x_dr DL25 7 rfl) 2 rfl rfl ?_
  refine r_arg (j := 1) X hX (by omega) hN (by decide) (x_dr DL25 8 rfl) (x_dr DL25 9 rfl) (x_dr DL25 10 rfl) (x_dr DL25 11 rfl) (x_dr DL25 12 rfl) ?_
  refine r_callV (As := [.int (xs (k + 1))]) (n := 1) X (k7_wet h) (o := 13) rfl (by decide) rfl ml_L_120 mi_7_wet mv_7_wet mn_7 mc_7_wet ⟨by decide +kernel, by decide +kernel, by decide +kernel⟩ rfl ⟨Nat.le_of_ble_eq_true rfl, Nat.le_of_ble_eq_true rfl⟩ (Nat.le_of_ble_eq_true rfl) (x_dr DL25 13 rfl) (fun v s2 h => ?_)
  obtain ⟨r2, rfl, e, h⟩ := h
  subst e
  refine r_icmp_eq X 1259 (x_dr DL25 14 rfl) (by decide) (fun _ => kk s2 h) (fun c9 => absurd rfl c9)
set_option maxHeartbeats 4000000 in
set_option maxRecDepth 10000 in
theorem lc_26 {ad : xAd} {E : xE} {Q : Option Value → xSt → Prop} {b N k : Nat} {xs : Nat → Int32} {σ : xSt} (X : FX ad E code 4 RL x_tag 14 562) (hX : XS E b N xs) (hk : k + 6 ≤ N) (hN : N ≤ 384) (hR : RR σ) (kk : ∀ s1, RR s1 → KK ad E Q 1259 (LW ad b k) [] s1) : KK ad E Q 854 (LW ad b k) [] σ := by
  refine r_aload_n X (x_dr DL26 0 rfl) 1 rfl rfl ?_
  refine r_arg (j := 1) X hX (by omega) hN (by decide) (x_dr DL26 1 rfl) (x_dr DL26 2 rfl) (x_dr DL26 3 rfl) (x_dr DL26 4 rfl) (x_dr DL26 5 rfl) ?_
  refine r_callV (As := [.int (xs (k + 1))]) (n := 1) X (k6_ask (q_ask hR)) (o := 0) rfl (by decide) rfl ml_L_121 mi_6_ask mv_6_ask mn_6 mc_6_ask ⟨by decide +kernel, by decide +kernel, by decide +kernel⟩ rfl ⟨Nat.le_of_ble_eq_true rfl, Nat.le_of_ble_eq_true rfl⟩ (Nat.le_of_ble_eq_true rfl) (x_dr DL26 6 rfl) (fun v s1 h => ?_)
  obtain ⟨r1, rfl, h⟩ := h
  refine r_aload_n X (x_dr DL26 7 rfl) 2 rfl rfl ?_
  refine r_arg (j := 1) X hX (by omega) hN (by decide) (x_dr DL26 8 rfl) (x_dr DL26 9 rfl) (x_dr DL26 10 rfl) (x_dr DL26 11 rfl) (x_dr DL26 12 rfl) ?_
  refine r_callV (As := [.int (xs (k + 1))]) (n := 1) X (k7_ask h) (o := 13) rfl (by decide) rfl ml_L_124 mi_7_ask mv_7_ask mn_7 mc_7_ask ⟨by decide +kernel, by decide +kernel, by decide +kernel⟩ rfl ⟨Nat.le_of_ble_eq_true rfl, Nat.le_of_ble_eq_true rfl⟩ (Nat.le_of_ble_eq_true rfl) (x_dr DL26 13 rfl) (fun v s2 h => ?_)
  obtain ⟨r2, rfl, e, h⟩ := h
  subst e
  refine r_icmp_eq X 1259 (x_dr DL26 14 rfl) (by decide) (fun _ => kk s2 h) (fun c9 => absurd rfl c9)
set_option maxHeartbeats 4000000 in
set_option maxRecDepth 10000 in
theorem lc_27 {ad : xAd} {E : xE} {Q : Option Value → xSt → Prop} {b N k : Nat} {xs : Nat → Int32} {σ : xSt} (X : FX ad E code 4 RL x_tag 14 562) (hX : XS E b N xs) (hk : k + 6 ≤ N) (hN : N ≤ 384) (hR : RR σ) (kk : ∀ s1, RR s1 → KK ad E Q 1259 (LW ad b k) [] s1) : KK ad E Q 877 (LW ad b k) [] σ := by
  refine r_aload_n X (x_dr DL27 0 rfl) 1 rfl rfl ?_
  refine r_arg (j := 1) X hX (by omega) hN (by decide) (x_dr DL27 1 rfl) (x_dr DL27 2 rfl) (x_dr DL27 3 rfl) (x_dr DL27 4 rfl) (x_dr DL27 5 rfl) ?_
  refine r_arg (j := 2) X hX (by omega) hN (by decide) (x_dr DL27 6 rfl) (x_dr DL27 7 rfl) (x_dr DL27 8 rfl) (x_dr DL27 9 rfl) (x_dr DL27 10 rfl) ?_
  refine r_arg (j := 3) X hX (by omega) hN (by decide) (x_dr DL27 11 rfl) (x_dr DL27 12 rfl) (x_dr DL27 13 rfl) (x_dr DL27 14 rfl) (x_dr DL27 15 rfl) ?_
  refine r_callV (As := [.int (xs (k + 1)), .int (xs (k + 2)), .int (xs (k + 3))]) (n := 3) X (k6_chance (q_chance hR)) (o := 0) rfl (by decide) rfl ml_L_125 mi_6_chance mv_6_chance mn_6 mc_6_chance ⟨by decide +kernel, by decide +kernel, by decide +kernel⟩ rfl ⟨Nat.le_of_ble_eq_true rfl, Nat.le_of_ble_eq_true rfl⟩ (Nat.le_of_ble_eq_true rfl) (x_dr DL27 16 rfl) (fun v s1 h => ?_)
  obtain ⟨r1, rfl, h⟩ := h
  refine r_aload_n X (x_dr DL27 17 rfl) 2 rfl rfl ?_
  refine r_arg (j := 1) X hX (by omega) hN (by decide) (x_dr DL27 18 rfl) (x_dr DL27 19 rfl) (x_dr DL27 20 rfl) (x_dr DL27 21 rfl) (x_dr DL27 22 rfl) ?_
  refine r_arg (j := 2) X hX (by omega) hN (by decide) (x_dr DL27 23 rfl) (x_dr DL27 24 rfl) (x_dr DL27 25 rfl) (x_dr DL27 26 rfl) (x_dr DL27 27 rfl) ?_
  refine r_arg (j := 3) X hX (by omega) hN (by decide) (x_dr DL27 28 rfl) (x_dr DL27 29 rfl) (x_dr DL27 30 rfl) (x_dr DL27 31 rfl) (x_dr DL27 32 rfl) ?_
  refine r_callV (As := [.int (xs (k + 1)), .int (xs (k + 2)), .int (xs (k + 3))]) (n := 3) X (k7_chance h) (o := 13) rfl (by decide) rfl ml_L_129 mi_7_chance mv_7_chance mn_7 mc_7_chance ⟨by decide +kernel, by decide +kernel, by decide +kernel⟩ rfl ⟨Nat.le_of_ble_eq_true rfl, Nat.le_of_ble_eq_true rfl⟩ (Nat.le_of_ble_eq_true rfl) (x_dr DL27 33 rfl) (fun v s2 h => ?_)
  obtain ⟨r2, rfl, e, h⟩ := h
  subst e
  refine r_lcmp X (x_dr DL27 34 rfl) ?_
  refine r_if_eq X 1259 (x_dr DL27 35 rfl) (by decide) (fun _ => kk s2 h) (fun c9 => absurd (lg_cmp_self r1) c9)
set_option maxHeartbeats 4000000 in
set_option maxRecDepth 10000 in
theorem lc_28 {ad : xAd} {E : xE} {Q : Option Value → xSt → Prop} {b N k : Nat} {xs : Nat → Int32} {σ : xSt} (X : FX ad E code 4 RL x_tag 14 562) (hX : XS E b N xs) (hk : k + 6 ≤ N) (hN : N ≤ 384) (hR : RR σ) (kk : ∀ s1, RR s1 → KK ad E Q 1259 (LW ad b k) [] s1) : KK ad E Q 921 (LW ad b k) [] σ := by
  refine r_aload_n X (x_dr DL28 0 rfl) 1 rfl rfl ?_
  refine r_arg (j := 1) X hX (by omega) hN (by decide) (x_dr DL28 1 rfl) (x_dr DL28 2 rfl) (x_dr DL28 3 rfl) (x_dr DL28 4 rfl) (x_dr DL28 5 rfl) ?_
  refine r_arg (j := 2) X hX (by omega) hN (by decide) (x_dr DL28 6 rfl) (x_dr DL28 7 rfl) (x_dr DL28 8 rfl) (x_dr DL28 9 rfl) (x_dr DL28 10 rfl) ?_
  refine r_arg (j := 3) X hX (by omega) hN (by decide) (x_dr DL28 11 rfl) (x_dr DL28 12 rfl) (x_dr DL28 13 rfl) (x_dr DL28 14 rfl) (x_dr DL28 15 rfl) ?_
  refine r_callV (As := [.int (xs (k + 1)), .int (xs (k + 2)), .int (xs (k + 3))]) (n := 3) X (k6_ages (q_ages hR)) (o := 0) rfl (by decide) rfl ml_L_130 mi_6_ages mv_6_ages mn_6 mc_6_ages ⟨by decide +kernel, by decide +kernel, by decide +kernel⟩ rfl ⟨Nat.le_of_ble_eq_true rfl, Nat.le_of_ble_eq_true rfl⟩ (Nat.le_of_ble_eq_true rfl) (x_dr DL28 16 rfl) (fun v s1 h => ?_)
  obtain ⟨r1, rfl, h⟩ := h
  refine r_aload_n X (x_dr DL28 17 rfl) 2 rfl rfl ?_
  refine r_arg (j := 1) X hX (by omega) hN (by decide) (x_dr DL28 18 rfl) (x_dr DL28 19 rfl) (x_dr DL28 20 rfl) (x_dr DL28 21 rfl) (x_dr DL28 22 rfl) ?_
  refine r_arg (j := 2) X hX (by omega) hN (by decide) (x_dr DL28 23 rfl) (x_dr DL28 24 rfl) (x_dr DL28 25 rfl) (x_dr DL28 26 rfl) (x_dr DL28 27 rfl) ?_
  refine r_arg (j := 3) X hX (by omega) hN (by decide) (x_dr DL28 28 rfl) (x_dr DL28 29 rfl) (x_dr DL28 30 rfl) (x_dr DL28 31 rfl) (x_dr DL28 32 rfl) ?_
  refine r_callV (As := [.int (xs (k + 1)), .int (xs (k + 2)), .int (xs (k + 3))]) (n := 3) X (k7_ages h) (o := 13) rfl (by decide) rfl ml_L_133 mi_7_ages mv_7_ages mn_7 mc_7_ages ⟨by decide +kernel, by decide +kernel, by decide +kernel⟩ rfl ⟨Nat.le_of_ble_eq_true rfl, Nat.le_of_ble_eq_true rfl⟩ (Nat.le_of_ble_eq_true rfl) (x_dr DL28 33 rfl) (fun v s2 h => ?_)
  obtain ⟨r2, rfl, e, h⟩ := h
  subst e
  refine r_icmp_eq X 1259 (x_dr DL28 34 rfl) (by decide) (fun _ => kk s2 h) (fun c9 => absurd rfl c9)
set_option maxHeartbeats 4000000 in
set_option maxRecDepth 10000 in
theorem lc_29 {ad : xAd} {E : xE} {Q : Option Value → xSt → Prop} {b N k : Nat} {xs : Nat → Int32} {σ : xSt} (X : FX ad E code 4 RL x_tag 14 562) (hX : XS E b N xs) (hk : k + 6 ≤ N) (hN : N ≤ 384) (hR : RR σ) (kk : ∀ s1, RR s1 → KK ad E Q 1259 (LW ad b k) [] s1) : KK ad E Q 964 (LW ad b k) [] σ := by
  refine r_aload_n X (x_dr DL29 0 rfl) 1 rfl rfl ?_
  refine r_arg (j := 1) X hX (by omega) hN (by decide) (x_dr DL29 1 rfl) (x_dr DL29 2 rfl) (x_dr DL29 3 rfl) (x_dr DL29 4 rfl) (x_dr DL29 5 rfl) ?_
  refine r_arg (j := 2) X hX (by omega) hN (by decide) (x_dr DL29 6 rfl) (x_dr DL29 7 rfl) (x_dr DL29 8 rfl) (x_dr DL29 9 rfl) (x_dr DL29 10 rfl) ?_
  refine r_arg (j := 3) X hX (by omega) hN (by decide) (x_dr DL29 11 rfl) (x_dr DL29 12 rfl) (x_dr DL29 13 rfl) (x_dr DL29 14 rfl) (x_dr DL29 15 rfl) ?_
  refine r_callV (As := [.int (xs (k + 1)), .int (xs (k + 2)), .int (xs (k + 3))]) (n := 3) X (k6_sheet (q_sheet hR)) (o := 0) rfl (by decide) rfl ml_L_134 mi_6_sheet mv_6_sheet mn_6 mc_6_sheet ⟨by decide +kernel, by decide +kernel, by decide +kernel⟩ rfl ⟨Nat.le_of_ble_eq_true rfl, Nat.le_of_ble_eq_true rfl⟩ (Nat.le_of_ble_eq_true rfl) (x_dr DL29 16 rfl) (fun v s1 h => ?_)
  obtain ⟨r1, rfl, h⟩ := h
  refine r_aload_n X (x_dr DL29 17 rfl) 2 rfl rfl ?_
  refine r_arg (j := 1) X hX (by omega) hN (by decide) (x_dr DL29 18 rfl) (x_dr DL29 19 rfl) (x_dr DL29 20 rfl) (x_dr DL29 21 rfl) (x_dr DL29 22 rfl) ?_
  refine r_arg (j := 2) X hX (by omega) hN (by decide) (x_dr DL29 23 rfl) (x_dr DL29 24 rfl) (x_dr DL29 25 rfl) (x_dr DL29 26 rfl) (x_dr DL29 27 rfl) ?_
  refine r_arg (j := 3) X hX (by omega) hN (by decide) (x_dr DL29 28 rfl) (x_dr DL29 29 rfl) (x_dr DL29 30 rfl) (x_dr DL29 31 rfl) (x_dr DL29 32 rfl) ?_
  refine r_callV (As := [.int (xs (k + 1)), .int (xs (k + 2)), .int (xs (k + 3))]) (n := 3) X (k7_sheet h) (o := 13) rfl (by decide) rfl ml_L_137 mi_7_sheet mv_7_sheet mn_7 mc_7_sheet ⟨by decide +kernel, by decide +kernel, by decide +kernel⟩ rfl ⟨Nat.le_of_ble_eq_true rfl, Nat.le_of_ble_eq_true rfl⟩ (Nat.le_of_ble_eq_true rfl) (x_dr DL29 33 rfl) (fun v s2 h => ?_)
  obtain ⟨r2, rfl, e, h⟩ := h
  subst e
  refine r_icmp_eq X 1259 (x_dr DL29 34 rfl) (by decide) (fun _ => kk s2 h) (fun c9 => absurd rfl c9)
set_option maxHeartbeats 4000000 in
set_option maxRecDepth 10000 in
theorem lc_30 {ad : xAd} {E : xE} {Q : Option Value → xSt → Prop} {b N k : Nat} {xs : Nat → Int32} {σ : xSt} (X : FX ad E code 4 RL x_tag 14 562) (hX : XS E b N xs) (hk : k + 6 ≤ N) (hN : N ≤ 384) (hR : RR σ) (kk : ∀ s1, RR s1 → KK ad E Q 1259 (LW ad b k) [] s1) : KK ad E Q 1007 (LW ad b k) [] σ := by
  refine r_aload_n X (x_dr DL30 0 rfl) 1 rfl rfl ?_
  refine r_arg (j := 1) X hX (by omega) hN (by decide) (x_dr DL30 1 rfl) (x_dr DL30 2 rfl) (x_dr DL30 3 rfl) (x_dr DL30 4 rfl) (x_dr DL30 5 rfl) ?_
  refine r_callV (As := [.int (xs (k + 1))]) (n := 1) X (k6_lose (q_lose hR)) (o := 0) rfl (by decide) rfl ml_L_138 mi_6_lose mv_6_lose mn_6 mc_6_lose ⟨by decide +kernel, by decide +kernel, by decide +kernel⟩ rfl ⟨Nat.le_of_ble_eq_true rfl, Nat.le_of_ble_eq_true rfl⟩ (Nat.le_of_ble_eq_true rfl) (x_dr DL30 6 rfl) (fun v s1 h => ?_)
  obtain ⟨r1, rfl, h⟩ := h
  refine r_aload_n X (x_dr DL30 7 rfl) 2 rfl rfl ?_
  refine r_arg (j := 1) X hX (by omega) hN (by decide) (x_dr DL30 8 rfl) (x_dr DL30 9 rfl) (x_dr DL30 10 rfl) (x_dr DL30 11 rfl) (x_dr DL30 12 rfl) ?_
  refine r_callV (As := [.int (xs (k + 1))]) (n := 1) X (k7_lose h) (o := 13) rfl (by decide) rfl ml_L_141 mi_7_lose mv_7_lose mn_7 mc_7_lose ⟨by decide +kernel, by decide +kernel, by decide +kernel⟩ rfl ⟨Nat.le_of_ble_eq_true rfl, Nat.le_of_ble_eq_true rfl⟩ (Nat.le_of_ble_eq_true rfl) (x_dr DL30 13 rfl) (fun v s2 h => ?_)
  obtain ⟨r2, rfl, e, h⟩ := h
  subst e
  refine r_icmp_eq X 1259 (x_dr DL30 14 rfl) (by decide) (fun _ => kk s2 h) (fun c9 => absurd rfl c9)
set_option maxHeartbeats 4000000 in
set_option maxRecDepth 10000 in
theorem lc_31 {ad : xAd} {E : xE} {Q : Option Value → xSt → Prop} {b N k : Nat} {xs : Nat → Int32} {σ : xSt} (X : FX ad E code 4 RL x_tag 14 562) (hX : XS E b N xs) (hk : k + 6 ≤ N) (hN : N ≤ 384) (hR : RR σ) (kk : ∀ s1, RR s1 → KK ad E Q 1259 (LW ad b k) [] s1) : KK ad E Q 1030 (LW ad b k) [] σ := by
  refine r_aload_n X (x_dr DL31 0 rfl) 1 rfl rfl ?_
  refine r_arg (j := 1) X hX (by omega) hN (by decide) (x_dr DL31 1 rfl) (x_dr DL31 2 rfl) (x_dr DL31 3 rfl) (x_dr DL31 4 rfl) (x_dr DL31 5 rfl) ?_
  refine r_arg (j := 2) X hX (by omega) hN (by decide) (x_dr DL31 6 rfl) (x_dr DL31 7 rfl) (x_dr DL31 8 rfl) (x_dr DL31 9 rfl) (x_dr DL31 10 rfl) ?_
  refine r_arg (j := 3) X hX (by omega) hN (by decide) (x_dr DL31 11 rfl) (x_dr DL31 12 rfl) (x_dr DL31 13 rfl) (x_dr DL31 14 rfl) (x_dr DL31 15 rfl) ?_
  refine r_arg (j := 4) X hX (by omega) hN (by decide) (x_dr DL31 16 rfl) (x_dr DL31 17 rfl) (x_dr DL31 18 rfl) (x_dr DL31 19 rfl) (x_dr DL31 20 rfl) ?_
  refine r_callV (As := [.int (xs (k + 1)), .int (xs (k + 2)), .int (xs (k + 3)), .int (xs (k + 4))]) (n := 4) X (k6_put (q_put hR)) (o := 0) rfl (by decide) rfl ml_L_142 mi_6_put mv_6_put mn_6 mc_6_put ⟨by decide +kernel, by decide +kernel, by decide +kernel⟩ rfl ⟨Nat.le_of_ble_eq_true rfl, Nat.le_of_ble_eq_true rfl⟩ (Nat.le_of_ble_eq_true rfl) (x_dr DL31 21 rfl) (fun v s1 h => ?_)
  obtain ⟨r1, rfl, h⟩ := h
  refine r_aload_n X (x_dr DL31 22 rfl) 2 rfl rfl ?_
  refine r_arg (j := 1) X hX (by omega) hN (by decide) (x_dr DL31 23 rfl) (x_dr DL31 24 rfl) (x_dr DL31 25 rfl) (x_dr DL31 26 rfl) (x_dr DL31 27 rfl) ?_
  refine r_arg (j := 2) X hX (by omega) hN (by decide) (x_dr DL31 28 rfl) (x_dr DL31 29 rfl) (x_dr DL31 30 rfl) (x_dr DL31 31 rfl) (x_dr DL31 32 rfl) ?_
  refine r_arg (j := 3) X hX (by omega) hN (by decide) (x_dr DL31 33 rfl) (x_dr DL31 34 rfl) (x_dr DL31 35 rfl) (x_dr DL31 36 rfl) (x_dr DL31 37 rfl) ?_
  refine r_arg (j := 4) X hX (by omega) hN (by decide) (x_dr DL31 38 rfl) (x_dr DL31 39 rfl) (x_dr DL31 40 rfl) (x_dr DL31 41 rfl) (x_dr DL31 42 rfl) ?_
  refine r_callV (As := [.int (xs (k + 1)), .int (xs (k + 2)), .int (xs (k + 3)), .int (xs (k + 4))]) (n := 4) X (k7_put h) (o := 13) rfl (by decide) rfl ml_L_146 mi_7_put mv_7_put mn_7 mc_7_put ⟨by decide +kernel, by decide +kernel, by decide +kernel⟩ rfl ⟨Nat.le_of_ble_eq_true rfl, Nat.le_of_ble_eq_true rfl⟩ (Nat.le_of_ble_eq_true rfl) (x_dr DL31 43 rfl) (fun v s2 h => ?_)
  obtain ⟨r2, rfl, e, h⟩ := h
  subst e
  refine r_icmp_eq X 1259 (x_dr DL31 44 rfl) (by decide) (fun _ => kk s2 h) (fun c9 => absurd rfl c9)
set_option maxHeartbeats 4000000 in
set_option maxRecDepth 10000 in
theorem lc_32 {ad : xAd} {E : xE} {Q : Option Value → xSt → Prop} {b N k : Nat} {xs : Nat → Int32} {σ : xSt} (X : FX ad E code 4 RL x_tag 14 562) (hX : XS E b N xs) (hk : k + 6 ≤ N) (hN : N ≤ 384) (hR : RR σ) (kk : ∀ s1, RR s1 → KK ad E Q 1259 (LW ad b k) [] s1) : KK ad E Q 1083 (LW ad b k) [] σ := by
  refine r_aload_n X (x_dr DL32 0 rfl) 1 rfl rfl ?_
  refine r_arg (j := 1) X hX (by omega) hN (by decide) (x_dr DL32 1 rfl) (x_dr DL32 2 rfl) (x_dr DL32 3 rfl) (x_dr DL32 4 rfl) (x_dr DL32 5 rfl) ?_
  refine r_arg (j := 2) X hX (by omega) hN (by decide) (x_dr DL32 6 rfl) (x_dr DL32 7 rfl) (x_dr DL32 8 rfl) (x_dr DL32 9 rfl) (x_dr DL32 10 rfl) ?_
  refine r_arg (j := 3) X hX (by omega) hN (by decide) (x_dr DL32 11 rfl) (x_dr DL32 12 rfl) (x_dr DL32 13 rfl) (x_dr DL32 14 rfl) (x_dr DL32 15 rfl) ?_
  refine r_callV (As := [.int (xs (k + 1)), .int (xs (k + 2)), .int (xs (k + 3))]) (n := 3) X (k6_get (q_get hR)) (o := 0) rfl (by decide) rfl ml_L_147 mi_6_get mv_6_get mn_6 mc_6_get ⟨by decide +kernel, by decide +kernel, by decide +kernel⟩ rfl ⟨Nat.le_of_ble_eq_true rfl, Nat.le_of_ble_eq_true rfl⟩ (Nat.le_of_ble_eq_true rfl) (x_dr DL32 16 rfl) (fun v s1 h => ?_)
  obtain ⟨r1, rfl, h⟩ := h
  refine r_aload_n X (x_dr DL32 17 rfl) 2 rfl rfl ?_
  refine r_arg (j := 1) X hX (by omega) hN (by decide) (x_dr DL32 18 rfl) (x_dr DL32 19 rfl) (x_dr DL32 20 rfl) (x_dr DL32 21 rfl) (x_dr DL32 22 rfl) ?_
  refine r_arg (j := 2) X hX (by omega) hN (by decide) (x_dr DL32 23 rfl) (x_dr DL32 24 rfl) (x_dr DL32 25 rfl) (x_dr DL32 26 rfl) (x_dr DL32 27 rfl) ?_
  refine r_arg (j := 3) X hX (by omega) hN (by decide) (x_dr DL32 28 rfl) (x_dr DL32 29 rfl) (x_dr DL32 30 rfl) (x_dr DL32 31 rfl) (x_dr DL32 32 rfl) ?_
  refine r_callV (As := [.int (xs (k + 1)), .int (xs (k + 2)), .int (xs (k + 3))]) (n := 3) X (k7_get h) (o := 13) rfl (by decide) rfl ml_L_150 mi_7_get mv_7_get mn_7 mc_7_get ⟨by decide +kernel, by decide +kernel, by decide +kernel⟩ rfl ⟨Nat.le_of_ble_eq_true rfl, Nat.le_of_ble_eq_true rfl⟩ (Nat.le_of_ble_eq_true rfl) (x_dr DL32 33 rfl) (fun v s2 h => ?_)
  obtain ⟨r2, rfl, e, h⟩ := h
  subst e
  refine r_icmp_eq X 1259 (x_dr DL32 34 rfl) (by decide) (fun _ => kk s2 h) (fun c9 => absurd rfl c9)
set_option maxHeartbeats 4000000 in
set_option maxRecDepth 10000 in
theorem lc_33 {ad : xAd} {E : xE} {Q : Option Value → xSt → Prop} {b N k : Nat} {xs : Nat → Int32} {σ : xSt} (X : FX ad E code 4 RL x_tag 14 562) (hX : XS E b N xs) (hk : k + 6 ≤ N) (hN : N ≤ 384) (hR : RR σ) (kk : ∀ s1, RR s1 → KK ad E Q 1259 (LW ad b k) [] s1) : KK ad E Q 1126 (LW ad b k) [] σ := by
  refine r_aload_n X (x_dr DL33 0 rfl) 1 rfl rfl ?_
  refine r_arg (j := 1) X hX (by omega) hN (by decide) (x_dr DL33 1 rfl) (x_dr DL33 2 rfl) (x_dr DL33 3 rfl) (x_dr DL33 4 rfl) (x_dr DL33 5 rfl) ?_
  refine r_arg (j := 2) X hX (by omega) hN (by decide) (x_dr DL33 6 rfl) (x_dr DL33 7 rfl) (x_dr DL33 8 rfl) (x_dr DL33 9 rfl) (x_dr DL33 10 rfl) ?_
  refine r_arg (j := 3) X hX (by omega) hN (by decide) (x_dr DL33 11 rfl) (x_dr DL33 12 rfl) (x_dr DL33 13 rfl) (x_dr DL33 14 rfl) (x_dr DL33 15 rfl) ?_
  refine r_arg (j := 4) X hX (by omega) hN (by decide) (x_dr DL33 16 rfl) (x_dr DL33 17 rfl) (x_dr DL33 18 rfl) (x_dr DL33 19 rfl) (x_dr DL33 20 rfl) ?_
  refine r_arg (j := 5) X hX (by omega) hN (by decide) (x_dr DL33 21 rfl) (x_dr DL33 22 rfl) (x_dr DL33 23 rfl) (x_dr DL33 24 rfl) (x_dr DL33 25 rfl) ?_
  refine r_callV (As := [.int (xs (k + 1)), .int (xs (k + 2)), .int (xs (k + 3)), .int (xs (k + 4)), .int (xs (k + 5))]) (n := 5) X (k6_copy (q_copy hR)) (o := 0) rfl (by decide) rfl ml_L_151 mi_6_copy mv_6_copy mn_6 mc_6_copy ⟨by decide +kernel, by decide +kernel, by decide +kernel⟩ rfl ⟨Nat.le_of_ble_eq_true rfl, Nat.le_of_ble_eq_true rfl⟩ (Nat.le_of_ble_eq_true rfl) (x_dr DL33 26 rfl) (fun v s1 h => ?_)
  obtain ⟨r1, rfl, h⟩ := h
  refine r_aload_n X (x_dr DL33 27 rfl) 2 rfl rfl ?_
  refine r_arg (j := 1) X hX (by omega) hN (by decide) (x_dr DL33 28 rfl) (x_dr DL33 29 rfl) (x_dr DL33 30 rfl) (x_dr DL33 31 rfl) (x_dr DL33 32 rfl) ?_
  refine r_arg (j := 2) X hX (by omega) hN (by decide) (x_dr DL33 33 rfl) (x_dr DL33 34 rfl) (x_dr DL33 35 rfl) (x_dr DL33 36 rfl) (x_dr DL33 37 rfl) ?_
  refine r_arg (j := 3) X hX (by omega) hN (by decide) (x_dr DL33 38 rfl) (x_dr DL33 39 rfl) (x_dr DL33 40 rfl) (x_dr DL33 41 rfl) (x_dr DL33 42 rfl) ?_
  refine r_arg (j := 4) X hX (by omega) hN (by decide) (x_dr DL33 43 rfl) (x_dr DL33 44 rfl) (x_dr DL33 45 rfl) (x_dr DL33 46 rfl) (x_dr DL33 47 rfl) ?_
  refine r_arg (j := 5) X hX (by omega) hN (by decide) (x_dr DL33 48 rfl) (x_dr DL33 49 rfl) (x_dr DL33 50 rfl) (x_dr DL33 51 rfl) (x_dr DL33 52 rfl) ?_
  refine r_callV (As := [.int (xs (k + 1)), .int (xs (k + 2)), .int (xs (k + 3)), .int (xs (k + 4)), .int (xs (k + 5))]) (n := 5) X (k7_copy h) (o := 13) rfl (by decide) rfl ml_L_155 mi_7_copy mv_7_copy mn_7 mc_7_copy ⟨by decide +kernel, by decide +kernel, by decide +kernel⟩ rfl ⟨Nat.le_of_ble_eq_true rfl, Nat.le_of_ble_eq_true rfl⟩ (Nat.le_of_ble_eq_true rfl) (x_dr DL33 53 rfl) (fun v s2 h => ?_)
  obtain ⟨r2, rfl, e, h⟩ := h
  subst e
  refine r_icmp_eq X 1259 (x_dr DL33 54 rfl) (by decide) (fun _ => kk s2 h) (fun c9 => absurd rfl c9)
set_option maxHeartbeats 4000000 in
set_option maxRecDepth 10000 in
theorem lc_34 {ad : xAd} {E : xE} {Q : Option Value → xSt → Prop} {b N k : Nat} {xs : Nat → Int32} {σ : xSt} (X : FX ad E code 4 RL x_tag 14 562) (hX : XS E b N xs) (hk : k + 6 ≤ N) (hN : N ≤ 384) (hR : RR σ) (kk : ∀ s1, RR s1 → KK ad E Q 1259 (LW ad b k) [] s1) : KK ad E Q 1189 (LW ad b k) [] σ := by
  refine r_aload_n X (x_dr DL34 0 rfl) 1 rfl rfl ?_
  refine r_arg (j := 1) X hX (by omega) hN (by decide) (x_dr DL34 1 rfl) (x_dr DL34 2 rfl) (x_dr DL34 3 rfl) (x_dr DL34 4 rfl) (x_dr DL34 5 rfl) ?_
  refine r_arg (j := 2) X hX (by omega) hN (by decide) (x_dr DL34 6 rfl) (x_dr DL34 7 rfl) (x_dr DL34 8 rfl) (x_dr DL34 9 rfl) (x_dr DL34 10 rfl) ?_
  refine r_callV (As := [.int (xs (k + 1)), .int (xs (k + 2))]) (n := 2) X (k6_write (q_write hR)) (o := 0) rfl (by decide) rfl ml_L_156 mi_6_write mv_6_write mn_6 mc_6_write ⟨by decide +kernel, by decide +kernel, by decide +kernel⟩ rfl ⟨Nat.le_of_ble_eq_true rfl, Nat.le_of_ble_eq_true rfl⟩ (Nat.le_of_ble_eq_true rfl) (x_dr DL34 11 rfl) (fun v s1 h => ?_)
  obtain ⟨r1, rfl, h⟩ := h
  refine r_aload_n X (x_dr DL34 12 rfl) 2 rfl rfl ?_
  refine r_arg (j := 1) X hX (by omega) hN (by decide) (x_dr DL34 13 rfl) (x_dr DL34 14 rfl) (x_dr DL34 15 rfl) (x_dr DL34 16 rfl) (x_dr DL34 17 rfl) ?_
  refine r_arg (j := 2) X hX (by omega) hN (by decide) (x_dr DL34 18 rfl) (x_dr DL34 19 rfl) (x_dr DL34 20 rfl) (x_dr DL34 21 rfl) (x_dr DL34 22 rfl) ?_
  refine r_callV (As := [.int (xs (k + 1)), .int (xs (k + 2))]) (n := 2) X (k7_write h) (o := 13) rfl (by decide) rfl ml_L_159 mi_7_write mv_7_write mn_7 mc_7_write ⟨by decide +kernel, by decide +kernel, by decide +kernel⟩ rfl ⟨Nat.le_of_ble_eq_true rfl, Nat.le_of_ble_eq_true rfl⟩ (Nat.le_of_ble_eq_true rfl) (x_dr DL34 23 rfl) (fun v s2 h => ?_)
  obtain ⟨r2, rfl, e, h⟩ := h
  subst e
  refine r_icmp_eq X 1259 (x_dr DL34 24 rfl) (by decide) (fun _ => kk s2 h) (fun c9 => absurd rfl c9)
set_option maxHeartbeats 4000000 in
set_option maxRecDepth 10000 in
theorem lc_35 {ad : xAd} {E : xE} {Q : Option Value → xSt → Prop} {b N k : Nat} {xs : Nat → Int32} {σ : xSt} (X : FX ad E code 4 RL x_tag 14 562) (hX : XS E b N xs) (hk : k + 6 ≤ N) (hN : N ≤ 384) (hR : RR σ) (kk : ∀ s1, RR s1 → KK ad E Q 1259 (LW ad b k) [] s1) : KK ad E Q 1222 (LW ad b k) [] σ := by
  refine r_aload_n X (x_dr DL35 0 rfl) 1 rfl rfl ?_
  refine r_arg (j := 1) X hX (by omega) hN (by decide) (x_dr DL35 1 rfl) (x_dr DL35 2 rfl) (x_dr DL35 3 rfl) (x_dr DL35 4 rfl) (x_dr DL35 5 rfl) ?_
  refine r_callV (As := [.int (xs (k + 1))]) (n := 1) X (k6_count (q_count hR)) (o := 0) rfl (by decide) rfl ml_L_160 mi_6_count mv_6_count mn_6 mc_6_count ⟨by decide +kernel, by decide +kernel, by decide +kernel⟩ rfl ⟨Nat.le_of_ble_eq_true rfl, Nat.le_of_ble_eq_true rfl⟩ (Nat.le_of_ble_eq_true rfl) (x_dr DL35 6 rfl) (fun v s1 h => ?_)
  obtain ⟨r1, rfl, h⟩ := h
  refine r_aload_n X (x_dr DL35 7 rfl) 2 rfl rfl ?_
  refine r_arg (j := 1) X hX (by omega) hN (by decide) (x_dr DL35 8 rfl) (x_dr DL35 9 rfl) (x_dr DL35 10 rfl) (x_dr DL35 11 rfl) (x_dr DL35 12 rfl) ?_
  refine r_callV (As := [.int (xs (k + 1))]) (n := 1) X (k7_count h) (o := 13) rfl (by decide) rfl ml_L_163 mi_7_count mv_7_count mn_7 mc_7_count ⟨by decide +kernel, by decide +kernel, by decide +kernel⟩ rfl ⟨Nat.le_of_ble_eq_true rfl, Nat.le_of_ble_eq_true rfl⟩ (Nat.le_of_ble_eq_true rfl) (x_dr DL35 13 rfl) (fun v s2 h => ?_)
  obtain ⟨r2, rfl, e, h⟩ := h
  subst e
  refine r_icmp_eq X 1259 (x_dr DL35 14 rfl) (by decide) (fun _ => kk s2 h) (fun c9 => absurd rfl c9)
set_option maxHeartbeats 4000000 in
set_option maxRecDepth 10000 in
theorem lc_36 {ad : xAd} {E : xE} {Q : Option Value → xSt → Prop} {b N k : Nat} {xs : Nat → Int32} {σ : xSt} (X : FX ad E code 4 RL x_tag 14 562) (hX : XS E b N xs) (hk : k + 6 ≤ N) (hN : N ≤ 384) (hR : RR σ) (kk : ∀ s1, RR s1 → KK ad E Q 1259 (LW ad b k) [] s1) : KK ad E Q 1245 (LW ad b k) [] σ := by
  refine r_aload_n X (x_dr DL36 0 rfl) 1 rfl rfl ?_
  refine r_callV (As := []) (n := 0) X (k6_digest (q_digest hR)) (o := 0) rfl (by decide) rfl ml_L_164 mi_6_digest mv_6_digest mn_6 mc_6_digest ⟨by decide +kernel, by decide +kernel, by decide +kernel⟩ rfl ⟨Nat.le_of_ble_eq_true rfl, Nat.le_of_ble_eq_true rfl⟩ (Nat.le_of_ble_eq_true rfl) (x_dr DL36 1 rfl) (fun v s1 h => ?_)
  obtain ⟨r1, rfl, h⟩ := h
  refine r_aload_n X (x_dr DL36 2 rfl) 2 rfl rfl ?_
  refine r_callV (As := []) (n := 0) X (k7_digest h) (o := 13) rfl (by decide) rfl ml_L_168 mi_7_digest mv_7_digest mn_7 mc_7_digest ⟨by decide +kernel, by decide +kernel, by decide +kernel⟩ rfl ⟨Nat.le_of_ble_eq_true rfl, Nat.le_of_ble_eq_true rfl⟩ (Nat.le_of_ble_eq_true rfl) (x_dr DL36 3 rfl) (fun v s2 h => ?_)
  obtain ⟨r2, rfl, e, h⟩ := h
  subst e
  refine r_lcmp X (x_dr DL36 4 rfl) ?_
  refine r_if_eq X 1259 (x_dr DL36 5 rfl) (by decide) (fun _ => kk s2 h) (fun c9 => absurd (lg_cmp_self r1) c9)
