/-! THE CLAIM OUT OF ONE WALK OF THE LAW'S BODY. Your part is whole_start (and what it stands on); all else here is the same for every law, but numbers. -/
def R_law : String := "LineOriginsLaw"
def lw_P (b : Addr) (xs : List Int32) (args : Array Value) (s : State) : Prop := args = #[.ref b] ∧ s.IntsAt b xs ∧ xs.length ≤ 2560 ∧ (Jvm.Cond.and given_1 narrow_1).before args s = true
def lw_Q (_ : Array Value) (s : State) (o : Outcome) (t : State) : Prop := o = .returned (some (.int 1)) ∧ Framed s o t [] 65 2089
def lw_Z (below : List Frame) (a : Array Value) (s : State) : State → Prop := fun t => ∃ o, t.status = .running ∧ Ended t below o ∧ lw_Q a s o t
/-- the law's own end, with 1 on the stack, nothing written that was there before, its room as the claim has it -/
theorem lw_ret {p : Program} {l : Launch} {e : Env} {s : State} {m : MethodId} {below : List Frame} {meth : Method} {c : Code} {b : Nat} (hx : p.tables.exec = Jvm.exec) (hb : c.code = code) (hr : meth.sig.returnType = ret) (hlocks : meth.locks = false) {pc : Nat} {H : Heap} {ls : Array Slot} (hdg : decode code pc = .ok (.ireturn, 1)) : W p l e room_1 s m #[Value.ref b] below meth c H [] 65 2089 (lw_Z below #[Value.ref b] s) (F0 m pc ls [.int 1]) := by
  intro T hT X
  obtain ⟨fs, hret, hrun, hended, hW, hframe⟩ := X.leave (v := some (.int 1)) (hlocks := hlocks) (fun h => by rw [hr] at h; cases h)
  have hmeth' : T.vm.method? m = some meth := X.method'
  refine ⟨T.setFrames fs, ?_, .returned (some (.int 1)), hrun, hended, rfl, ⟨_, rfl⟩, hW, hframe⟩
  jvm_step X.here [X.here.top, hx, hb, hdg, hmeth', hr, ret, narrow_b1]
  (try refine ⟨rfl, ?_⟩); (try refine ⟨rfl, ?_⟩)
  first | (intro acts; rw [hret _ acts rfl rfl rfl]) | rw [hret _ _ rfl rfl rfl]
  exact Steps.refl _
/-- what holds at the law's entry: the machine, the code, the tables' words (any of lw_tbl by 'hts w (by decide +kernel)'), the script of L ints xs at the cell b, what the Statement gives of the start (any of its parts by flat_of_before) -/
def lw_At (p : Program) (s : State) (m : MethodId) (meth : Method) (c : Code) (b L : Nat) (xs : Nat → Int32) : Prop :=
  p.tables.exec = Jvm.exec ∧ c.code = code ∧ meth.sig.returnType = ret ∧ c.maxLocals = 4 ∧ s.vm.findClass R_law = some m.cls ∧ (∀ w ∈ lw_tbl, w.before #[Value.ref b] s = true) ∧ va_X b L xs s s.heap ∧ b < s.heap.size ∧ meth.locks = false ∧ (Jvm.Cond.and given_1 narrow_1).before #[Value.ref b] s = true
/-! the law: its instructions -/
def LD0 : List (Nat × Instr × Nat) := [(0, .new 7, 3), (3, .dup, 1), (4, .invokespecial 9, 3), (7, .astore_n 1, 1), (8, .new 10, 3), (11, .dup, 1), (12, .invokespecial 12, 3), (15, .astore_n 2, 1), (16, .iconst 0, 1), (17, .istore_n 3, 1), (18, .iload_n 3, 1), (19, .aload_n 0, 1), (20, .arraylength, 1), (21, .iconst 5, 1), (22, .isub, 1), (23, .if_icmp .gt 725, 3), (26, .aload_n 0, 1), (27, .iload_n 3, 1), (28, .iaload, 1), (29, .bipush 31, 2), (31, .iand, 1), (32, .tableswitch 710 0 21 #[104, 127, 140, 153, 186, 229, 252, 275, 298, 311, 354, 387, 420, 463, 496, 529, 562, 615, 628, 641, 664, 687], 104), (136, .aload_n 1, 1), (137, .aload_n 0, 1), (138, .iload_n 3, 1), (139, .iconst 1, 1), (140, .iadd, 1), (141, .iaload, 1), (142, .invokevirtual 13, 3), (145, .aload_n 2, 1), (146, .aload_n 0, 1), (147, .iload_n 3, 1), (148, .iconst 1, 1), (149, .iadd, 1), (150, .iaload, 1), (151, .invokevirtual 17, 3), (154, .if_icmp .eq 588, 3), (157, .iconst 0, 1), (158, .ireturn, 1), (159, .aload_n 1, 1), (160, .invokevirtual 18, 3), (163, .aload_n 2, 1), (164, .invokevirtual 22, 3), (167, .if_icmp .eq 575, 3), (170, .iconst 0, 1), (171, .ireturn, 1), (172, .aload_n 1, 1), (173, .invokevirtual 23, 3), (176, .aload_n 2, 1), (177, .invokevirtual 26, 3), (180, .if_icmp .eq 562, 3), (183, .iconst 0, 1), (184, .ireturn, 1), (185, .aload_n 1, 1), (186, .aload_n 0, 1), (187, .iload_n 3, 1), (188, .iconst 1, 1), (189, .iadd, 1), (190, .iaload, 1), (191, .aload_n 0, 1), (192, .iload_n 3, 1), (193, .iconst 2, 1), (194, .iadd, 1), (195, .iaload, 1), (196, .invokevirtual 27, 3), (199, .aload_n 2, 1), (200, .aload_n 0, 1), (201, .iload_n 3, 1), (202, .iconst 1, 1), (203, .iadd, 1), (204, .iaload, 1), (205, .aload_n 0, 1), (206, .iload_n 3, 1), (207, .iconst 2, 1), (208, .iadd, 1), (209, .iaload, 1), (210, .invokevirtual 31, 3), (213, .if_icmp .eq 529, 3), (216, .iconst 0, 1), (217, .ireturn, 1), (218, .aload_n 1, 1), (219, .aload_n 0, 1), (220, .iload_n 3, 1), (221, .iconst 1, 1), (222, .iadd, 1), (223, .iaload, 1), (224, .aload_n 0, 1), (225, .iload_n 3, 1), (226, .iconst 2, 1), (227, .iadd, 1), (228, .iaload, 1), (229, .aload_n 0, 1), (230, .iload_n 3, 1), (231, .iconst 3, 1), (232, .iadd, 1), (233, .iaload, 1), (234, .invokevirtual 32, 3), (237, .aload_n 2, 1), (238, .aload_n 0, 1), (239, .iload_n 3, 1), (240, .iconst 1, 1), (241, .iadd, 1), (242, .iaload, 1), (243, .aload_n 0, 1), (244, .iload_n 3, 1), (245, .iconst 2, 1), (246, .iadd, 1), (247, .iaload, 1), (248, .aload_n 0, 1), (249, .iload_n 3, 1), (250, .iconst 3, 1), (251, .iadd, 1), (252, .iaload, 1), (253, .invokevirtual 36, 3), (256, .if_icmp .eq 486, 3), (259, .iconst 0, 1), (260, .ireturn, 1), (261, .aload_n 1, 1), (262, .aload_n 0, 1), (263, .iload_n 3, 1), (264, .iconst 1, 1), (265, .iadd, 1), (266, .iaload, 1), (267, .invokevirtual 37, 3), (270, .aload_n 2, 1), (271, .aload_n 0, 1)]
def LD1 : List (Nat × Instr × Nat) := [(272, .iload_n 3, 1), (273, .iconst 1, 1), (274, .iadd, 1), (275, .iaload, 1), (276, .invokevirtual 40, 3), (279, .if_icmp .eq 463, 3), (282, .iconst 0, 1), (283, .ireturn, 1), (284, .aload_n 1, 1), (285, .aload_n 0, 1), (286, .iload_n 3, 1), (287, .iconst 1, 1), (288, .iadd, 1), (289, .iaload, 1), (290, .invokevirtual 41, 3), (293, .aload_n 2, 1), (294, .aload_n 0, 1), (295, .iload_n 3, 1), (296, .iconst 1, 1), (297, .iadd, 1), (298, .iaload, 1), (299, .invokevirtual 44, 3), (302, .if_icmp .eq 440, 3), (305, .iconst 0, 1), (306, .ireturn, 1), (307, .aload_n 1, 1), (308, .aload_n 0, 1), (309, .iload_n 3, 1), (310, .iconst 1, 1), (311, .iadd, 1), (312, .iaload, 1), (313, .invokevirtual 45, 3), (316, .aload_n 2, 1), (317, .aload_n 0, 1), (318, .iload_n 3, 1), (319, .iconst 1, 1), (320, .iadd, 1), (321, .iaload, 1), (322, .invokevirtual 48, 3), (325, .if_icmp .eq 417, 3), (328, .iconst 0, 1), (329, .ireturn, 1), (330, .aload_n 1, 1), (331, .invokevirtual 49, 3), (334, .aload_n 2, 1), (335, .invokevirtual 52, 3), (338, .if_icmp .eq 404, 3), (341, .iconst 0, 1), (342, .ireturn, 1), (343, .aload_n 1, 1), (344, .aload_n 0, 1), (345, .iload_n 3, 1), (346, .iconst 1, 1), (347, .iadd, 1), (348, .iaload, 1), (349, .aload_n 0, 1), (350, .iload_n 3, 1), (351, .iconst 2, 1), (352, .iadd, 1), (353, .iaload, 1), (354, .aload_n 0, 1), (355, .iload_n 3, 1), (356, .iconst 3, 1), (357, .iadd, 1), (358, .iaload, 1), (359, .invokevirtual 53, 3), (362, .aload_n 2, 1), (363, .aload_n 0, 1), (364, .iload_n 3, 1), (365, .iconst 1, 1), (366, .iadd, 1), (367, .iaload, 1), (368, .aload_n 0, 1), (369, .iload_n 3, 1), (370, .iconst 2, 1), (371, .iadd, 1), (372, .iaload, 1), (373, .aload_n 0, 1), (374, .iload_n 3, 1), (375, .iconst 3, 1), (376, .iadd, 1), (377, .iaload, 1), (378, .invokevirtual 56, 3), (381, .if_icmp .eq 361, 3), (384, .iconst 0, 1), (385, .ireturn, 1), (386, .aload_n 1, 1), (387, .aload_n 0, 1), (388, .iload_n 3, 1), (389, .iconst 1, 1), (390, .iadd, 1), (391, .iaload, 1), (392, .aload_n 0, 1), (393, .iload_n 3, 1), (394, .iconst 2, 1), (395, .iadd, 1), (396, .iaload, 1), (397, .invokevirtual 57, 3), (400, .aload_n 2, 1), (401, .aload_n 0, 1), (402, .iload_n 3, 1), (403, .iconst 1, 1), (404, .iadd, 1), (405, .iaload, 1), (406, .aload_n 0, 1), (407, .iload_n 3, 1), (408, .iconst 2, 1), (409, .iadd, 1), (410, .iaload, 1), (411, .invokevirtual 60, 3), (414, .if_icmp .eq 328, 3), (417, .iconst 0, 1), (418, .ireturn, 1), (419, .aload_n 1, 1), (420, .aload_n 0, 1), (421, .iload_n 3, 1), (422, .iconst 1, 1), (423, .iadd, 1), (424, .iaload, 1), (425, .aload_n 0, 1), (426, .iload_n 3, 1), (427, .iconst 2, 1), (428, .iadd, 1), (429, .iaload, 1), (430, .invokevirtual 61, 3), (433, .aload_n 2, 1)]
def LD2 : List (Nat × Instr × Nat) := [(434, .aload_n 0, 1), (435, .iload_n 3, 1), (436, .iconst 1, 1), (437, .iadd, 1), (438, .iaload, 1), (439, .aload_n 0, 1), (440, .iload_n 3, 1), (441, .iconst 2, 1), (442, .iadd, 1), (443, .iaload, 1), (444, .invokevirtual 64, 3), (447, .if_icmp .eq 295, 3), (450, .iconst 0, 1), (451, .ireturn, 1), (452, .aload_n 1, 1), (453, .aload_n 0, 1), (454, .iload_n 3, 1), (455, .iconst 1, 1), (456, .iadd, 1), (457, .iaload, 1), (458, .aload_n 0, 1), (459, .iload_n 3, 1), (460, .iconst 2, 1), (461, .iadd, 1), (462, .iaload, 1), (463, .aload_n 0, 1), (464, .iload_n 3, 1), (465, .iconst 3, 1), (466, .iadd, 1), (467, .iaload, 1), (468, .invokevirtual 65, 3), (471, .aload_n 2, 1), (472, .aload_n 0, 1), (473, .iload_n 3, 1), (474, .iconst 1, 1), (475, .iadd, 1), (476, .iaload, 1), (477, .aload_n 0, 1), (478, .iload_n 3, 1), (479, .iconst 2, 1), (480, .iadd, 1), (481, .iaload, 1), (482, .aload_n 0, 1), (483, .iload_n 3, 1), (484, .iconst 3, 1), (485, .iadd, 1), (486, .iaload, 1), (487, .invokevirtual 68, 3), (490, .if_icmp .eq 252, 3), (493, .iconst 0, 1), (494, .ireturn, 1), (495, .aload_n 1, 1), (496, .aload_n 0, 1), (497, .iload_n 3, 1), (498, .iconst 1, 1), (499, .iadd, 1), (500, .iaload, 1), (501, .aload_n 0, 1), (502, .iload_n 3, 1), (503, .iconst 2, 1), (504, .iadd, 1), (505, .iaload, 1), (506, .invokevirtual 69, 3), (509, .aload_n 2, 1), (510, .aload_n 0, 1), (511, .iload_n 3, 1), (512, .iconst 1, 1), (513, .iadd, 1), (514, .iaload, 1), (515, .aload_n 0, 1), (516, .iload_n 3, 1), (517, .iconst 2, 1), (518, .iadd, 1), (519, .iaload, 1), (520, .invokevirtual 72, 3), (523, .if_icmp .eq 219, 3), (526, .iconst 0, 1), (527, .ireturn, 1), (528, .aload_n 1, 1), (529, .aload_n 0, 1), (530, .iload_n 3, 1), (531, .iconst 1, 1), (532, .iadd, 1), (533, .iaload, 1), (534, .aload_n 0, 1), (535, .iload_n 3, 1), (536, .iconst 2, 1), (537, .iadd, 1), (538, .iaload, 1), (539, .invokevirtual 73, 3), (542, .aload_n 2, 1), (543, .aload_n 0, 1), (544, .iload_n 3, 1), (545, .iconst 1, 1), (546, .iadd, 1), (547, .iaload, 1), (548, .aload_n 0, 1), (549, .iload_n 3, 1), (550, .iconst 2, 1), (551, .iadd, 1), (552, .iaload, 1), (553, .invokevirtual 76, 3), (556, .if_icmp .eq 186, 3), (559, .iconst 0, 1), (560, .ireturn, 1), (561, .aload_n 1, 1), (562, .aload_n 0, 1), (563, .iload_n 3, 1), (564, .iconst 1, 1), (565, .iadd, 1), (566, .iaload, 1), (567, .aload_n 0, 1), (568, .iload_n 3, 1), (569, .iconst 2, 1), (570, .iadd, 1), (571, .iaload, 1), (572, .invokevirtual 77, 3), (575, .aload_n 2, 1), (576, .aload_n 0, 1), (577, .iload_n 3, 1), (578, .iconst 1, 1), (579, .iadd, 1), (580, .iaload, 1), (581, .aload_n 0, 1), (582, .iload_n 3, 1), (583, .iconst 2, 1)]
def LD3 : List (Nat × Instr × Nat) := [(584, .iadd, 1), (585, .iaload, 1), (586, .invokevirtual 80, 3), (589, .if_icmp .eq 153, 3), (592, .iconst 0, 1), (593, .ireturn, 1), (594, .aload_n 1, 1), (595, .aload_n 0, 1), (596, .iload_n 3, 1), (597, .iconst 1, 1), (598, .iadd, 1), (599, .iaload, 1), (600, .aload_n 0, 1), (601, .iload_n 3, 1), (602, .iconst 2, 1), (603, .iadd, 1), (604, .iaload, 1), (605, .aload_n 0, 1), (606, .iload_n 3, 1), (607, .iconst 3, 1), (608, .iadd, 1), (609, .iaload, 1), (610, .aload_n 0, 1), (611, .iload_n 3, 1), (612, .iconst 4, 1), (613, .iadd, 1), (614, .iaload, 1), (615, .invokevirtual 81, 3), (618, .aload_n 2, 1), (619, .aload_n 0, 1), (620, .iload_n 3, 1), (621, .iconst 1, 1), (622, .iadd, 1), (623, .iaload, 1), (624, .aload_n 0, 1), (625, .iload_n 3, 1), (626, .iconst 2, 1), (627, .iadd, 1), (628, .iaload, 1), (629, .aload_n 0, 1), (630, .iload_n 3, 1), (631, .iconst 3, 1), (632, .iadd, 1), (633, .iaload, 1), (634, .aload_n 0, 1), (635, .iload_n 3, 1), (636, .iconst 4, 1), (637, .iadd, 1), (638, .iaload, 1), (639, .invokevirtual 85, 3), (642, .if_icmp .eq 100, 3), (645, .iconst 0, 1), (646, .ireturn, 1), (647, .aload_n 1, 1), (648, .invokevirtual 86, 3), (651, .aload_n 2, 1), (652, .invokevirtual 89, 3), (655, .if_icmp .eq 87, 3), (658, .iconst 0, 1), (659, .ireturn, 1), (660, .aload_n 1, 1), (661, .invokevirtual 90, 3), (664, .aload_n 2, 1), (665, .invokevirtual 93, 3), (668, .if_icmp .eq 74, 3), (671, .iconst 0, 1), (672, .ireturn, 1), (673, .aload_n 1, 1), (674, .aload_n 0, 1), (675, .iload_n 3, 1), (676, .iconst 1, 1), (677, .iadd, 1), (678, .iaload, 1), (679, .invokevirtual 94, 3), (682, .aload_n 2, 1), (683, .aload_n 0, 1), (684, .iload_n 3, 1), (685, .iconst 1, 1), (686, .iadd, 1), (687, .iaload, 1), (688, .invokevirtual 97, 3), (691, .if_icmp .eq 51, 3), (694, .iconst 0, 1), (695, .ireturn, 1), (696, .aload_n 1, 1), (697, .aload_n 0, 1), (698, .iload_n 3, 1), (699, .iconst 1, 1), (700, .iadd, 1), (701, .iaload, 1), (702, .invokevirtual 98, 3), (705, .aload_n 2, 1), (706, .aload_n 0, 1), (707, .iload_n 3, 1), (708, .iconst 1, 1), (709, .iadd, 1), (710, .iaload, 1), (711, .invokevirtual 101, 3), (714, .if_icmp .eq 28, 3), (717, .iconst 0, 1), (718, .ireturn, 1), (719, .aload_n 1, 1), (720, .aload_n 0, 1), (721, .iload_n 3, 1), (722, .iconst 1, 1), (723, .iadd, 1), (724, .iaload, 1), (725, .invokevirtual 102, 3), (728, .aload_n 2, 1), (729, .aload_n 0, 1), (730, .iload_n 3, 1), (731, .iconst 1, 1), (732, .iadd, 1), (733, .iaload, 1), (734, .invokevirtual 105, 3), (737, .if_icmp .eq 5, 3), (740, .iconst 0, 1), (741, .ireturn, 1), (742, .iinc 3 5, 3), (745, .goto (-727), 3), (748, .iconst 1, 1), (749, .ireturn, 1)]
def ldk (q : Nat × Instr × Nat) : Bool := match decode code q.1 with
  | .ok (i, n) => decide (i = q.2.1) && n == q.2.2
  | _ => false
theorem ldk_e {q : Nat × Instr × Nat} (h : ldk q = true) : decode code q.1 = .ok (q.2.1, q.2.2) := by
  unfold ldk at h
  split at h
  · rename_i i n hd
    rw [Bool.and_eq_true, beq_iff_eq] at h
    rw [hd, of_decide_eq_true h.1, h.2]
  · cases h
theorem ld_ok0 : LD0.all ldk = true := by decide +kernel
theorem ld0 {k : Nat} {q : Nat × Instr × Nat} (h : LD0[k]? = some q) : decode code q.1 = .ok (q.2.1, q.2.2) := ldk_e (List.all_eq_true.mp ld_ok0 q (List.mem_of_getElem? h))
theorem ld_ok1 : LD1.all ldk = true := by decide +kernel
theorem ld1 {k : Nat} {q : Nat × Instr × Nat} (h : LD1[k]? = some q) : decode code q.1 = .ok (q.2.1, q.2.2) := ldk_e (List.all_eq_true.mp ld_ok1 q (List.mem_of_getElem? h))
theorem ld_ok2 : LD2.all ldk = true := by decide +kernel
theorem ld2 {k : Nat} {q : Nat × Instr × Nat} (h : LD2[k]? = some q) : decode code q.1 = .ok (q.2.1, q.2.2) := ldk_e (List.all_eq_true.mp ld_ok2 q (List.mem_of_getElem? h))
theorem ld_ok3 : LD3.all ldk = true := by decide +kernel
theorem ld3 {k : Nat} {q : Nat × Instr × Nat} (h : LD3[k]? = some q) : decode code q.1 = .ok (q.2.1, q.2.2) := ldk_e (List.all_eq_true.mp ld_ok3 q (List.mem_of_getElem? h))
def LK : List (Nat × Nat × Nat) := [(13, 88, 278), (18, 89, 290), (23, 90, 298), (27, 91, 541), (32, 92, 549), (37, 93, 571), (41, 94, 595), (45, 95, 603), (49, 96, 612), (53, 97, 628), (57, 98, 633), (61, 99, 637), (65, 100, 645), (69, 101, 653), (73, 102, 658), (77, 103, 662), (81, 104, 674), (86, 105, 686), (90, 106, 690), (94, 107, 699), (98, 108, 703), (102, 109, 707), (17, 122, 819), (22, 123, 827), (26, 128, 831), (31, 140, 867), (36, 141, 878), (40, 143, 918), (44, 144, 927), (48, 145, 931), (52, 146, 936), (56, 147, 940), (60, 148, 944), (64, 149, 948), (68, 151, 952), (72, 152, 960), (76, 153, 964), (80, 154, 968), (85, 155, 972), (89, 156, 976), (93, 158, 980), (97, 159, 988), (101, 160, 992), (105, 163, 996)]
def lkc (q : Nat × Nat × Nat) : Bool := lwAt q.2.2 (.methodLink R_law q.1 (mY q.2.1)) && decide (q.2.1 < 164 ∧ mZ q.2.1 = 0 ∧ mC q.2.1 = 0 ∧ mS q.2.1 = 0 ∧ mF q.2.1 + 1 ≤ room_1.frames ∧ 8 + (mL q.2.1 + 11) + mO q.2.1 ≤ room_1.locals)
theorem lk_ok : LK.all lkc = true := by decide +kernel
theorem lk_at {n i j pl : Nat} (h : LK[n]? = some (i, j, pl)) : Cond.methodLink R_law i (mY j) ∈ lw_tbl ∧ (j < 164 ∧ mZ j = 0 ∧ mC j = 0 ∧ mS j = 0 ∧ mF j + 1 ≤ room_1.frames ∧ 8 + (mL j + 11) + mO j ≤ room_1.locals) := by
  have h1 := List.all_eq_true.mp lk_ok _ (List.mem_of_getElem? h)
  unfold lkc at h1
  rw [Bool.and_eq_true] at h1
  exact ⟨lwAt_mem h1.1, of_decide_eq_true h1.2⟩
theorem nws_law {s : State} {b : Nat} (hts : ∀ w ∈ lw_tbl, w.before #[Value.ref b] s = true) : NWs s := by
  intro q hq hk
  have h1 := List.all_eq_true.mp mk_ok q hq
  unfold mkc at h1
  rcases hk with hk | hk
  · rw [hk] at h1
    simp only [Bool.and_eq_true] at h1
    exact va_Nw.of rfl (hts _ (lwAt_mem h1.1))
  · rw [hk] at h1
    simp only [Bool.and_eq_true] at h1
    exact va_Nw.of rfl (hts _ (lwAt_mem h1.1))
def INW : List Nat := [209, 154, 141, 116, 110, 81, 91, 177, 222, 67, 193, 59, 728]
theorem in_ok : (List.range 13).all (fun ci => lwAt (INW.getD ci 0) (.instantiable (nmC ci) (clN ci))) = true := by decide +kernel
theorem in_all {ci : Nat} (h : ci < 13) : Cond.instantiable (nmC ci) (clN ci) ∈ lw_tbl := lwAt_mem (List.all_eq_true.mp in_ok ci (List.mem_range.mpr h))
abbrev AL (s : State) : Nat → Prop := fun q => s.heap.size ≤ q
theorem tw_lw {w : Cond} (h : w ∈ TW) : w ∈ lw_tbl := (List.mem_filter.mp h).1
/-- the receiver of a call -/
theorem lw_recv {j : Nat} {As : List PV} {S : List Shp} (hArg : argOk j As S = true) (hz2 : mZ j ≠ 2) : ∃ (q : Nat) (A2 : List PV) (fs : List (Option (Option Nat))), As = vR q :: A2 ∧ S[q]? = some (.inr (mI j, fs)) := by
  unfold argOk at hArg
  simp only [Bool.and_eq_true, Bool.or_eq_true, beq_iff_eq] at hArg
  have h3 := hArg.2
  rcases h3 with h3 | h3
  · exact absurd h3 hz2
  · split at h3
    · rename_i q A2
      split at h3
      · rename_i ci fs hq
        have h4 : ci = mI j := by simpa using h3
        exact ⟨q, A2, fs, rfl, by rw [hq, h4]⟩
      · cases h3
    · cases h3
section LAWC
variable {p : Program} {l : Launch} {e : Env} {s : State} {m : MethodId} {below : List Frame} {meth : Method} {c : Code} {H : Heap} {locs : List Loc} {Q : State → Prop} {b L pc cells slots : Nat} {xs : Nat → Int32} {D : va_G} {ad : Nat → Nat} {cA : Nat → ClassId} {tys : List (ClassId × FieldType)} {lsR : Array Slot}
/-- behind a call of the law's -/
theorem law_back (mc ms : Nat) {S : List Shp} {μ : Mu} {r : Option PV} {M' : Mem} {rest st0 : List Value} {a : Array Value} (hWo : Wo D S μ ad cA tys (AL s) s H) (hS : va_S (AL s) s.heap H locs) (hr : va_Run p l e room_1 s m #[Value.ref b] below meth c H locs cells slots mc ms (F0 m pc lsR st0) rest (QcM D S μ ad cA H.size r M' a) (va_A (mkW S μ ad cA) H.size))
    (kk : ∀ (ad' : Nat → Nat) (cA' : Nat → ClassId) (tys' : List (ClassId × FieldType)) (H' : Heap) (locs' : List Loc), (∀ x, x < S.length → ad' x = ad x) → (∀ v, r = some v → okV M'.1.length v) → Wo D M'.1 M'.2.1 ad' cA' tys' (AL s) s H' → va_S (AL s) s.heap H' locs' → W p l e room_1 s m #[Value.ref b] below meth c H' locs' (cells + mc) (slots + ms) Q (F0 m (pc + 3) lsR ((r.map (trV ad')).toList ++ rest))) :
    W p l e room_1 s m #[Value.ref b] below meth c H locs cells slots Q (F0 m pc lsR st0) := by
  have hFA : ∀ q, va_A (mkW S μ ad cA) H.size q → AL s q := by
    intro q hq
    rcases hq with ⟨i, ee, hi⟩ | hq
    · exact hWo.2.2.1.2 i (q, ee) hi
    · exact Nat.le_trans hS.1 hq
  refine callg hr (fun v st₀ t H1 L h0 h1 hvm hq hL => ?_)
  obtain ⟨⟨ad', cA', tys', hag, hlen, hv, hWo', hok⟩, hz, hk⟩ := hq
  cases hv
  subst h1
  rw [h0] at hz hk
  have hWo2 : Wo D M'.1 M'.2.1 ad' cA' tys' (AL s) s t.heap := ⟨va_K.moved hvm.symm hWo'.1, hWo'.2.1, hWo'.2.2.1.weaken (fun _ q _ hq => hFA q.1 hq), hWo'.2.2.2⟩
  have hS2 : va_S (AL s) s.heap t.heap (locs ++ L) := ⟨Nat.le_trans hS.1 hz, fun q h1 h2 => by rw [hk q (Nat.lt_of_lt_of_le h1 hS.1) (fun z => h2 (hFA q z))]; exact hS.2.1 q h1 h2, fun q hq => by
    rcases List.mem_append.mp hq with h | h
    · exact hS.2.2 q h
    · exact hFA _ (hL q h)⟩
  exact kk ad' cA' tys' t.heap (locs ++ L) (fun x hx => (hag x hx).1) hok hWo2 hS2
/-- the law calls a method -/
theorem law_call {n i j pl : Nat} {As : List PV} {rest : List Value} {R : Po} {μ : Mu} (C0 : lw_At p s m meth c b L xs) (hWo : Wo D SH μ ad cA tys (AL s) s H) (hS : va_S (AL s) s.heap H locs) (hk : LK[n]? = some (i, j, pl)) (hd : decode code pc = .ok (.invokevirtual i, 3)) (hsz : lsR.size = 4) (hn : As.length = mN j) (hArg : argOk j As SH = true) (hOk : ∀ v ∈ As, okV SH.length v) (hrest : (rest.map fun v => v.category).sum ≤ 8) (hfit : cells ≤ room_1.cells ∧ slots ≤ room_1.slots) (hw : Wp j 0 (entL j As) [] μ R)
    (kk : ∀ (r : Option PV) (μ' : Mu) (ad' : Nat → Nat) (cA' : Nat → ClassId) (tys' : List (ClassId × FieldType)) (H' : Heap) (locs' : List Loc), R r μ' → (∀ v, r = some v → okV SH.length v) → (∀ x, x < SH.length → ad' x = ad x) → Wo D SH μ' ad' cA' tys' (AL s) s H' → va_S (AL s) s.heap H' locs' → W p l e room_1 s m #[Value.ref b] below meth c H' locs' cells slots Q (F0 m (pc + 3) lsR ((r.map (trV ad')).toList ++ rest))) :
    W p l e room_1 s m #[Value.ref b] below meth c H locs cells slots Q (F0 m pc lsR ((As.map (trV ad)).reverse ++ rest)) := by
  obtain ⟨hx, hb, hr, hml, hown, hts, hX, hbl, hlocks, hgv⟩ := id C0
  obtain ⟨hlk, hj, hZ, hC, hSl, hF, hO⟩ := lk_at hk
  obtain ⟨f, r, μ', hex, hR⟩ := hw
  have hex' : exec f j 0 (entL j As) [] (SH, μ, mC j, mS j) = some (r, (SH, μ', 0, 0)) := by rw [hC, hSl]; exact hex
  have hM := met_run hj hex' hArg hOk l D ad cA tys H.size
  obtain ⟨w1, w2, w3, w4, w5, w6, w7, w8, w9, w10, w11⟩ := mw_spec hj
  obtain ⟨q, A2, fs, rfl, hq⟩ := lw_recv hArg (by rw [hZ]; decide)
  have hdn : (parseMethodDescriptor (mY j).desc).map (fun d => d.parameters.length) = some A2.length := by
    rw [w8, hZ, ← hn]; rfl
  have hG : GoodIn lw_tbl (wsV R_law i (nmC (mI j)) (mY j) (wsK j)) := gi_app (fun w hw => by
    simp only [List.mem_cons, List.not_mem_nil, or_false] at hw
    rcases hw with rfl | rfl | rfl | rfl
    · exact ⟨hlk, rfl⟩
    · exact ⟨w2 (by rw [hZ]; decide), rfl⟩
    · exact ⟨w3 hZ, rfl⟩
    · exact ⟨ini_all w5, rfl⟩) (good_in (fun w hw => tw_lw hw) hj)
  have e0 : ((vR q :: A2).map (trV ad)).reverse ++ rest = (A2.map (trV ad)).reverse ++ .ref (ad q) :: rest := by
    simp [trV]
  rw [e0]
  have hrun := va_runV (p := p) (l := l) (e := e) (R := room_1) (below := below) (meth := meth) (locs := locs) (cells := cells) (slots := slots) (g := F0 m pc lsR ((A2.map (trV ad)).reverse ++ .ref (ad q) :: rest)) (As := A2.map (trV ad)) (b := ad q) (rest := rest) (C := nmC (mI j)) ⟨hx, hb, hml, hown, hts⟩ hM (cwV A2.length hts hG rfl rfl rfl ⟨w4, w7.1, w7.2, hdn⟩ ⟨hF, hO⟩)
    ⟨PcM.blind, va_recv hWo.1 hWo.2.1 (cls_at w5) (mkW_at hq), fun U hU hW => pcm_at hWo (nws_law hts) hU hW⟩ rfl (by rw [List.length_map]) hsz rfl (lv_room hrest) hd ⟨by rw [hC]; exact hfit.1, by rw [hSl]; exact hfit.2⟩
  refine law_back (mC j) (mS j) hWo hS hrun (fun ad' cA' tys' H' locs' h1 h2 h3 h4 => ?_)
  have := kk r μ' ad' cA' tys' H' locs' hR h2 h1 h3 h4
  rw [hC, hSl]
  exact this
/-- the law calls a constructor -/
theorem law_ctor {i j q f : Nat} {S S' : List Shp} {μ μ' : Mu} {rest : List Value} (C0 : lw_At p s m meth c b L xs) (hWo : Wo D S μ ad cA tys (AL s) s H) (hS : va_S (AL s) s.heap H locs) (hj : j < 164) (hZ : mZ j = 1) (hlk : Cond.methodLink R_law i (mY j) ∈ lw_tbl) (hR : mF j + 1 ≤ room_1.frames ∧ 8 + (mL j + 11) + mO j ≤ room_1.locals) (hn : mN j = 1) (hex : ∃ z : Nat × Nat, exec f j 0 (entL j [vR q]) [] (S, μ, mC j, mS j) = some (none, (S', μ', z))) (hArg : argOk j [vR q] S = true) (hq : q < S.length) (hd : decode code pc = .ok (.invokespecial i, 3)) (hsz : lsR.size = 4) (hrest : (rest.map fun v => v.category).sum ≤ 8) (hfit : cells + mC j ≤ room_1.cells ∧ slots + mS j ≤ room_1.slots)
    (kk : ∀ (ad' : Nat → Nat) (cA' : Nat → ClassId) (tys' : List (ClassId × FieldType)) (H' : Heap) (locs' : List Loc), (∀ x, x < S.length → ad' x = ad x) → Wo D S' μ' ad' cA' tys' (AL s) s H' → va_S (AL s) s.heap H' locs' → W p l e room_1 s m #[Value.ref b] below meth c H' locs' (cells + mC j) (slots + mS j) Q (F0 m (pc + 3) lsR rest)) :
    W p l e room_1 s m #[Value.ref b] below meth c H locs cells slots Q (F0 m pc lsR (.ref (ad q) :: rest)) := by
  obtain ⟨hx, hb, hr, hml, hown, hts, hX, hbl, hlocks, hgv⟩ := id C0
  obtain ⟨z, hex⟩ := hex
  have hM := met_run hj hex hArg (fun v hv => by
    rw [List.mem_singleton.mp hv]; exact hq) l D ad cA tys H.size
  obtain ⟨w1, w2, w3, w4, w5, w6, w7, w8, w9, w10, w11⟩ := mw_spec hj
  have hr0 : rT (mR j) = none := by rw [(w9 hZ).2]; rfl
  have hdn : (parseMethodDescriptor (mY j).desc).map (fun d => d.parameters.length) = some 0 := by
    rw [w8, hZ, hn]; rfl
  have hrun := va_runI (p := p) (l := l) (e := e) (R := room_1) (below := below) (meth := meth) (locs := locs) (cells := cells) (slots := slots) (g := F0 m pc lsR (.ref (ad q) :: rest)) (As := []) (b := ad q) (rest := rest) ⟨hx, hb, hml, hown, hts⟩ hM (cwI (bytes := mB j) (maxL := mL j) (ws' := TW) 0 hts (good_in (fun w hw => tw_lw hw) hj) (by rw [← hr0]; rfl) rfl rfl (by rw [w4]; exact hts _ (ini_all w5)) (hts _ hlk) (hts _ (w2 (by rw [hZ]; decide))) (w9 hZ).1 ⟨w7.1, w7.2, hdn⟩ hR)
    ⟨PcM.blind, fun U hU hW => pcm_at hWo (nws_law hts) hU hW⟩ rfl rfl hsz rfl (lv_room hrest) hd hfit
  exact law_back (mC j) (mS j) hWo hS hrun (fun ad' cA' tys' H' locs' h1 h2 h3 h4 => kk ad' cA' tys' H' locs' h1 h3 h4)
/-- the law makes an object -/
theorem law_new {i ci : Nat} {S : List Shp} {μ : Mu} {rest : List Value} (C0 : lw_At p s m meth c b L xs) (hWo : Wo D S μ ad cA tys (AL s) s H) (hS : va_S (AL s) s.heap H locs) (hci : ci < 13) (hcl : Cond.classLink R_law i (nmC ci) ∈ lw_tbl) (hd : decode code pc = .ok (.new i, 3)) (hfit : cells + 1 ≤ room_1.cells ∧ slots + clN ci ≤ room_1.slots)
    (kk : ∀ (ad' : Nat → Nat) (cA' : Nat → ClassId) (H' : Heap), (∀ x, x < S.length → ad' x = ad x) → Wo D (S ++ [.inr (ci, bl ci)]) (u0 μ S.length) ad' cA' tys (AL s) s H' → va_S (AL s) s.heap H' locs → W p l e room_1 s m #[Value.ref b] below meth c H' locs (cells + 1) (slots + clN ci) Q (F0 m (pc + 3) lsR (.ref (ad' S.length) :: rest))) :
    W p l e room_1 s m #[Value.ref b] below meth c H locs cells slots Q (F0 m pc lsR rest) := by
  obtain ⟨hx, hb, hr, hml, hown, hts, hX, hbl0, hlocks, hgv⟩ := id C0
  obtain ⟨hbl, hbf⟩ := bl_all ci hci
  have hfs : ∀ j, j < clN ci → defaultValue (tyC ci j) = vp_V ((bl ci).mapIdx (fun i o => fV ad (u0 μ S.length) S.length i o)) j := by
    intro j hj
    unfold vp_V
    rw [List.getD_eq_getElem?_getD, List.getElem?_mapIdx]
    rcases hbf j hj with ⟨h1, h2⟩ | ⟨h1, h2, h3⟩
    · rw [h1, h2]
      show Value.int 0 = Value.int (oI (u0 μ S.length S.length (j : Int)))
      unfold u0
      rw [if_pos rfl, oI_0]
    · rw [h1, h3]; rfl
  have hsh : shOK (S.length + 1) (.inr (ci, bl ci)) := by
    refine ⟨hci, hbl, fun j o ho => ?_⟩
    have hj : j < clN ci := by rw [← hbl]; exact (List.getElem?_eq_some_iff.mp ho).1
    rcases hbf j hj with ⟨h1, h2⟩ | ⟨h1, h2, h3⟩
    · rw [h1] at ho; cases ho; exact h2
    · rw [h1] at ho; cases ho; exact h2
  refine va_new (C := nmC ci) (T := clT ci) (N := clN ci) (ci := ci) hx hb hts (fun w hw => tw_lw (cls_in hci w hw)) (tyC ci) (ty_all ci hci) hown (hts _ hcl) (hts _ (in_all hci)) (hts _ (ini_all hci)) hWo.1 hWo.2.1 hWo.2.2.1 hS (fun _ h => h) (cls_at hci) hfs hfit.1 hfit.2 hd (fun q H1 hP hD hS1 => ?_)
  have he : (.inr (ci, (bl ci).mapIdx (fun i o => fV ad (u0 μ S.length) S.length i o)) : va_E) = mkE (upA ad S.length q) (upA cA S.length 0) (u0 μ S.length) S.length (.inr (ci, bl ci)) := by
    show (Sum.inr _ : va_E) = Sum.inr _
    refine congrArg Sum.inr (congrArg (Prod.mk _) ?_)
    apply List.ext_getElem?
    intro j
    rw [List.getElem?_mapIdx, List.getElem?_mapIdx]
    rcases ho : (bl ci)[j]? with _ | o
    · rfl
    · have hj : j < clN ci := by rw [← hbl]; exact (List.getElem?_eq_some_iff.mp ho).1
      rcases hbf j hj with ⟨h1, h2⟩ | ⟨h1, h2, h3⟩
      · rw [h1] at ho; cases ho; rfl
      · rw [h1] at ho; cases ho; rfl
  rw [mkW_push hWo.2.2.2.2.2 he] at hP hD
  have hTy : TyOK (S ++ [.inr (ci, bl ci)]) (upA cA S.length 0) tys := by
    intro p2 b2 n2 h2
    by_cases hl : p2 < S.length
    · rw [List.getElem?_append_left hl] at h2
      rw [upA_lt hl]
      exact hWo.2.2.2.1 p2 b2 n2 h2
    · have h3 := (List.getElem?_eq_some_iff.mp h2).1
      have hq2 : p2 = S.length := by simp at h3; omega
      subst hq2
      have e2 : (S ++ [.inr (ci, bl ci)] : List Shp)[S.length]? = some (.inr (ci, bl ci)) := by simp
      rw [e2] at h2
      cases h2
  have := kk (upA ad S.length q) (upA cA S.length 0) H1 (fun x hx => upA_lt hx) ⟨hWo.1, hP, hD, hTy, hWo.2.2.2.2.1.zo, hWo.2.2.2.2.2.push hsh⟩ hS1
  rw [upA_self] at this
  exact this
end LAWC
