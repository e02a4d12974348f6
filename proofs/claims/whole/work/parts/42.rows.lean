/-! the law: its instructions, a row each -/
theorem dl0 : decode code 0 = .ok (.new 7, 3) := ld0 (k := 0) (q := (0, .new 7, 3)) rfl
theorem dl3 : decode code 3 = .ok (.dup, 1) := ld0 (k := 1) (q := (3, .dup, 1)) rfl
theorem dl4 : decode code 4 = .ok (.invokespecial 9, 3) := ld0 (k := 2) (q := (4, .invokespecial 9, 3)) rfl
theorem dl7 : decode code 7 = .ok (.astore_n 1, 1) := ld0 (k := 3) (q := (7, .astore_n 1, 1)) rfl
theorem dl8 : decode code 8 = .ok (.new 10, 3) := ld0 (k := 4) (q := (8, .new 10, 3)) rfl
theorem dl11 : decode code 11 = .ok (.dup, 1) := ld0 (k := 5) (q := (11, .dup, 1)) rfl
theorem dl12 : decode code 12 = .ok (.invokespecial 12, 3) := ld0 (k := 6) (q := (12, .invokespecial 12, 3)) rfl
theorem dl15 : decode code 15 = .ok (.astore_n 2, 1) := ld0 (k := 7) (q := (15, .astore_n 2, 1)) rfl
theorem dl16 : decode code 16 = .ok (.iconst 0, 1) := ld0 (k := 8) (q := (16, .iconst 0, 1)) rfl
theorem dl17 : decode code 17 = .ok (.istore_n 3, 1) := ld0 (k := 9) (q := (17, .istore_n 3, 1)) rfl
theorem dl18 : decode code 18 = .ok (.iload_n 3, 1) := ld0 (k := 10) (q := (18, .iload_n 3, 1)) rfl
theorem dl19 : decode code 19 = .ok (.aload_n 0, 1) := ld0 (k := 11) (q := (19, .aload_n 0, 1)) rfl
theorem dl20 : decode code 20 = .ok (.arraylength, 1) := ld0 (k := 12) (q := (20, .arraylength, 1)) rfl
theorem dl21 : decode code 21 = .ok (.iconst 5, 1) := ld0 (k := 13) (q := (21, .iconst 5, 1)) rfl
theorem dl22 : decode code 22 = .ok (.isub, 1) := ld0 (k := 14) (q := (22, .isub, 1)) rfl
theorem dl23 : decode code 23 = .ok (.if_icmp .gt 725, 3) := ld0 (k := 15) (q := (23, .if_icmp .gt 725, 3)) rfl
theorem dl26 : decode code 26 = .ok (.aload_n 0, 1) := ld0 (k := 16) (q := (26, .aload_n 0, 1)) rfl
theorem dl27 : decode code 27 = .ok (.iload_n 3, 1) := ld0 (k := 17) (q := (27, .iload_n 3, 1)) rfl
theorem dl28 : decode code 28 = .ok (.iaload, 1) := ld0 (k := 18) (q := (28, .iaload, 1)) rfl
theorem dl29 : decode code 29 = .ok (.bipush 31, 2) := ld0 (k := 19) (q := (29, .bipush 31, 2)) rfl
theorem dl31 : decode code 31 = .ok (.iand, 1) := ld0 (k := 20) (q := (31, .iand, 1)) rfl
theorem dl32 : decode code 32 = .ok (.tableswitch 710 0 21 #[104, 127, 140, 153, 186, 229, 252, 275, 298, 311, 354, 387, 420, 463, 496, 529, 562, 615, 628, 641, 664, 687], 104) := ld0 (k := 21) (q := (32, .tableswitch 710 0 21 #[104, 127, 140, 153, 186, 229, 252, 275, 298, 311, 354, 387, 420, 463, 496, 529, 562, 615, 628, 641, 664, 687], 104)) rfl
theorem dl136 : decode code 136 = .ok (.aload_n 1, 1) := ld0 (k := 22) (q := (136, .aload_n 1, 1)) rfl
theorem dl137 : decode code 137 = .ok (.aload_n 0, 1) := ld0 (k := 23) (q := (137, .aload_n 0, 1)) rfl
theorem dl138 : decode code 138 = .ok (.iload_n 3, 1) := ld0 (k := 24) (q := (138, .iload_n 3, 1)) rfl
theorem dl139 : decode code 139 = .ok (.iconst 1, 1) := ld0 (k := 25) (q := (139, .iconst 1, 1)) rfl
theorem dl140 : decode code 140 = .ok (.iadd, 1) := ld0 (k := 26) (q := (140, .iadd, 1)) rfl
theorem dl141 : decode code 141 = .ok (.iaload, 1) := ld0 (k := 27) (q := (141, .iaload, 1)) rfl
theorem dl142 : decode code 142 = .ok (.invokevirtual 13, 3) := ld0 (k := 28) (q := (142, .invokevirtual 13, 3)) rfl
theorem dl145 : decode code 145 = .ok (.aload_n 2, 1) := ld0 (k := 29) (q := (145, .aload_n 2, 1)) rfl
theorem dl146 : decode code 146 = .ok (.aload_n 0, 1) := ld0 (k := 30) (q := (146, .aload_n 0, 1)) rfl
theorem dl147 : decode code 147 = .ok (.iload_n 3, 1) := ld0 (k := 31) (q := (147, .iload_n 3, 1)) rfl
theorem dl148 : decode code 148 = .ok (.iconst 1, 1) := ld0 (k := 32) (q := (148, .iconst 1, 1)) rfl
theorem dl149 : decode code 149 = .ok (.iadd, 1) := ld0 (k := 33) (q := (149, .iadd, 1)) rfl
theorem dl150 : decode code 150 = .ok (.iaload, 1) := ld0 (k := 34) (q := (150, .iaload, 1)) rfl
theorem dl151 : decode code 151 = .ok (.invokevirtual 17, 3) := ld0 (k := 35) (q := (151, .invokevirtual 17, 3)) rfl
theorem dl154 : decode code 154 = .ok (.if_icmp .eq 588, 3) := ld0 (k := 36) (q := (154, .if_icmp .eq 588, 3)) rfl
theorem dl157 : decode code 157 = .ok (.iconst 0, 1) := ld0 (k := 37) (q := (157, .iconst 0, 1)) rfl
theorem dl158 : decode code 158 = .ok (.ireturn, 1) := ld0 (k := 38) (q := (158, .ireturn, 1)) rfl
theorem dl159 : decode code 159 = .ok (.aload_n 1, 1) := ld0 (k := 39) (q := (159, .aload_n 1, 1)) rfl
theorem dl160 : decode code 160 = .ok (.invokevirtual 18, 3) := ld0 (k := 40) (q := (160, .invokevirtual 18, 3)) rfl
theorem dl163 : decode code 163 = .ok (.aload_n 2, 1) := ld0 (k := 41) (q := (163, .aload_n 2, 1)) rfl
theorem dl164 : decode code 164 = .ok (.invokevirtual 22, 3) := ld0 (k := 42) (q := (164, .invokevirtual 22, 3)) rfl
theorem dl167 : decode code 167 = .ok (.if_icmp .eq 575, 3) := ld0 (k := 43) (q := (167, .if_icmp .eq 575, 3)) rfl
theorem dl170 : decode code 170 = .ok (.iconst 0, 1) := ld0 (k := 44) (q := (170, .iconst 0, 1)) rfl
theorem dl171 : decode code 171 = .ok (.ireturn, 1) := ld0 (k := 45) (q := (171, .ireturn, 1)) rfl
theorem dl172 : decode code 172 = .ok (.aload_n 1, 1) := ld0 (k := 46) (q := (172, .aload_n 1, 1)) rfl
theorem dl173 : decode code 173 = .ok (.invokevirtual 23, 3) := ld0 (k := 47) (q := (173, .invokevirtual 23, 3)) rfl
theorem dl176 : decode code 176 = .ok (.aload_n 2, 1) := ld0 (k := 48) (q := (176, .aload_n 2, 1)) rfl
theorem dl177 : decode code 177 = .ok (.invokevirtual 26, 3) := ld0 (k := 49) (q := (177, .invokevirtual 26, 3)) rfl
theorem dl180 : decode code 180 = .ok (.if_icmp .eq 562, 3) := ld0 (k := 50) (q := (180, .if_icmp .eq 562, 3)) rfl
theorem dl183 : decode code 183 = .ok (.iconst 0, 1) := ld0 (k := 51) (q := (183, .iconst 0, 1)) rfl
theorem dl184 : decode code 184 = .ok (.ireturn, 1) := ld0 (k := 52) (q := (184, .ireturn, 1)) rfl
theorem dl185 : decode code 185 = .ok (.aload_n 1, 1) := ld0 (k := 53) (q := (185, .aload_n 1, 1)) rfl
theorem dl186 : decode code 186 = .ok (.aload_n 0, 1) := ld0 (k := 54) (q := (186, .aload_n 0, 1)) rfl
theorem dl187 : decode code 187 = .ok (.iload_n 3, 1) := ld0 (k := 55) (q := (187, .iload_n 3, 1)) rfl
theorem dl188 : decode code 188 = .ok (.iconst 1, 1) := ld0 (k := 56) (q := (188, .iconst 1, 1)) rfl
theorem dl189 : decode code 189 = .ok (.iadd, 1) := ld0 (k := 57) (q := (189, .iadd, 1)) rfl
theorem dl190 : decode code 190 = .ok (.iaload, 1) := ld0 (k := 58) (q := (190, .iaload, 1)) rfl
theorem dl191 : decode code 191 = .ok (.aload_n 0, 1) := ld0 (k := 59) (q := (191, .aload_n 0, 1)) rfl
theorem dl192 : decode code 192 = .ok (.iload_n 3, 1) := ld0 (k := 60) (q := (192, .iload_n 3, 1)) rfl
theorem dl193 : decode code 193 = .ok (.iconst 2, 1) := ld0 (k := 61) (q := (193, .iconst 2, 1)) rfl
theorem dl194 : decode code 194 = .ok (.iadd, 1) := ld0 (k := 62) (q := (194, .iadd, 1)) rfl
theorem dl195 : decode code 195 = .ok (.iaload, 1) := ld0 (k := 63) (q := (195, .iaload, 1)) rfl
theorem dl196 : decode code 196 = .ok (.invokevirtual 27, 3) := ld0 (k := 64) (q := (196, .invokevirtual 27, 3)) rfl
theorem dl199 : decode code 199 = .ok (.aload_n 2, 1) := ld0 (k := 65) (q := (199, .aload_n 2, 1)) rfl
theorem dl200 : decode code 200 = .ok (.aload_n 0, 1) := ld0 (k := 66) (q := (200, .aload_n 0, 1)) rfl
theorem dl201 : decode code 201 = .ok (.iload_n 3, 1) := ld0 (k := 67) (q := (201, .iload_n 3, 1)) rfl
theorem dl202 : decode code 202 = .ok (.iconst 1, 1) := ld0 (k := 68) (q := (202, .iconst 1, 1)) rfl
theorem dl203 : decode code 203 = .ok (.iadd, 1) := ld0 (k := 69) (q := (203, .iadd, 1)) rfl
theorem dl204 : decode code 204 = .ok (.iaload, 1) := ld0 (k := 70) (q := (204, .iaload, 1)) rfl
theorem dl205 : decode code 205 = .ok (.aload_n 0, 1) := ld0 (k := 71) (q := (205, .aload_n 0, 1)) rfl
theorem dl206 : decode code 206 = .ok (.iload_n 3, 1) := ld0 (k := 72) (q := (206, .iload_n 3, 1)) rfl
theorem dl207 : decode code 207 = .ok (.iconst 2, 1) := ld0 (k := 73) (q := (207, .iconst 2, 1)) rfl
theorem dl208 : decode code 208 = .ok (.iadd, 1) := ld0 (k := 74) (q := (208, .iadd, 1)) rfl
theorem dl209 : decode code 209 = .ok (.iaload, 1) := ld0 (k := 75) (q := (209, .iaload, 1)) rfl
theorem dl210 : decode code 210 = .ok (.invokevirtual 31, 3) := ld0 (k := 76) (q := (210, .invokevirtual 31, 3)) rfl
theorem dl213 : decode code 213 = .ok (.if_icmp .eq 529, 3) := ld0 (k := 77) (q := (213, .if_icmp .eq 529, 3)) rfl
theorem dl216 : decode code 216 = .ok (.iconst 0, 1) := ld0 (k := 78) (q := (216, .iconst 0, 1)) rfl
theorem dl217 : decode code 217 = .ok (.ireturn, 1) := ld0 (k := 79) (q := (217, .ireturn, 1)) rfl
theorem dl218 : decode code 218 = .ok (.aload_n 1, 1) := ld0 (k := 80) (q := (218, .aload_n 1, 1)) rfl
theorem dl219 : decode code 219 = .ok (.aload_n 0, 1) := ld0 (k := 81) (q := (219, .aload_n 0, 1)) rfl
theorem dl220 : decode code 220 = .ok (.iload_n 3, 1) := ld0 (k := 82) (q := (220, .iload_n 3, 1)) rfl
theorem dl221 : decode code 221 = .ok (.iconst 1, 1) := ld0 (k := 83) (q := (221, .iconst 1, 1)) rfl
theorem dl222 : decode code 222 = .ok (.iadd, 1) := ld0 (k := 84) (q := (222, .iadd, 1)) rfl
theorem dl223 : decode code 223 = .ok (.iaload, 1) := ld0 (k := 85) (q := (223, .iaload, 1)) rfl
theorem dl224 : decode code 224 = .ok (.aload_n 0, 1) := ld0 (k := 86) (q := (224, .aload_n 0, 1)) rfl
theorem dl225 : decode code 225 = .ok (.iload_n 3, 1) := ld0 (k := 87) (q := (225, .iload_n 3, 1)) rfl
theorem dl226 : decode code 226 = .ok (.iconst 2, 1) := ld0 (k := 88) (q := (226, .iconst 2, 1)) rfl
theorem dl227 : decode code 227 = .ok (.iadd, 1) := ld0 (k := 89) (q := (227, .iadd, 1)) rfl
theorem dl228 : decode code 228 = .ok (.iaload, 1) := ld0 (k := 90) (q := (228, .iaload, 1)) rfl
theorem dl229 : decode code 229 = .ok (.aload_n 0, 1) := ld0 (k := 91) (q := (229, .aload_n 0, 1)) rfl
theorem dl230 : decode code 230 = .ok (.iload_n 3, 1) := ld0 (k := 92) (q := (230, .iload_n 3, 1)) rfl
theorem dl231 : decode code 231 = .ok (.iconst 3, 1) := ld0 (k := 93) (q := (231, .iconst 3, 1)) rfl
theorem dl232 : decode code 232 = .ok (.iadd, 1) := ld0 (k := 94) (q := (232, .iadd, 1)) rfl
theorem dl233 : decode code 233 = .ok (.iaload, 1) := ld0 (k := 95) (q := (233, .iaload, 1)) rfl
theorem dl234 : decode code 234 = .ok (.invokevirtual 32, 3) := ld0 (k := 96) (q := (234, .invokevirtual 32, 3)) rfl
theorem dl237 : decode code 237 = .ok (.aload_n 2, 1) := ld0 (k := 97) (q := (237, .aload_n 2, 1)) rfl
theorem dl238 : decode code 238 = .ok (.aload_n 0, 1) := ld0 (k := 98) (q := (238, .aload_n 0, 1)) rfl
theorem dl239 : decode code 239 = .ok (.iload_n 3, 1) := ld0 (k := 99) (q := (239, .iload_n 3, 1)) rfl
theorem dl240 : decode code 240 = .ok (.iconst 1, 1) := ld0 (k := 100) (q := (240, .iconst 1, 1)) rfl
theorem dl241 : decode code 241 = .ok (.iadd, 1) := ld0 (k := 101) (q := (241, .iadd, 1)) rfl
theorem dl242 : decode code 242 = .ok (.iaload, 1) := ld0 (k := 102) (q := (242, .iaload, 1)) rfl
theorem dl243 : decode code 243 = .ok (.aload_n 0, 1) := ld0 (k := 103) (q := (243, .aload_n 0, 1)) rfl
theorem dl244 : decode code 244 = .ok (.iload_n 3, 1) := ld0 (k := 104) (q := (244, .iload_n 3, 1)) rfl
theorem dl245 : decode code 245 = .ok (.iconst 2, 1) := ld0 (k := 105) (q := (245, .iconst 2, 1)) rfl
theorem dl246 : decode code 246 = .ok (.iadd, 1) := ld0 (k := 106) (q := (246, .iadd, 1)) rfl
theorem dl247 : decode code 247 = .ok (.iaload, 1) := ld0 (k := 107) (q := (247, .iaload, 1)) rfl
theorem dl248 : decode code 248 = .ok (.aload_n 0, 1) := ld0 (k := 108) (q := (248, .aload_n 0, 1)) rfl
theorem dl249 : decode code 249 = .ok (.iload_n 3, 1) := ld0 (k := 109) (q := (249, .iload_n 3, 1)) rfl
theorem dl250 : decode code 250 = .ok (.iconst 3, 1) := ld0 (k := 110) (q := (250, .iconst 3, 1)) rfl
theorem dl251 : decode code 251 = .ok (.iadd, 1) := ld0 (k := 111) (q := (251, .iadd, 1)) rfl
theorem dl252 : decode code 252 = .ok (.iaload, 1) := ld0 (k := 112) (q := (252, .iaload, 1)) rfl
theorem dl253 : decode code 253 = .ok (.invokevirtual 36, 3) := ld0 (k := 113) (q := (253, .invokevirtual 36, 3)) rfl
theorem dl256 : decode code 256 = .ok (.if_icmp .eq 486, 3) := ld0 (k := 114) (q := (256, .if_icmp .eq 486, 3)) rfl
theorem dl259 : decode code 259 = .ok (.iconst 0, 1) := ld0 (k := 115) (q := (259, .iconst 0, 1)) rfl
theorem dl260 : decode code 260 = .ok (.ireturn, 1) := ld0 (k := 116) (q := (260, .ireturn, 1)) rfl
theorem dl261 : decode code 261 = .ok (.aload_n 1, 1) := ld0 (k := 117) (q := (261, .aload_n 1, 1)) rfl
theorem dl262 : decode code 262 = .ok (.aload_n 0, 1) := ld0 (k := 118) (q := (262, .aload_n 0, 1)) rfl
theorem dl263 : decode code 263 = .ok (.iload_n 3, 1) := ld0 (k := 119) (q := (263, .iload_n 3, 1)) rfl
theorem dl264 : decode code 264 = .ok (.iconst 1, 1) := ld0 (k := 120) (q := (264, .iconst 1, 1)) rfl
theorem dl265 : decode code 265 = .ok (.iadd, 1) := ld0 (k := 121) (q := (265, .iadd, 1)) rfl
theorem dl266 : decode code 266 = .ok (.iaload, 1) := ld0 (k := 122) (q := (266, .iaload, 1)) rfl
theorem dl267 : decode code 267 = .ok (.invokevirtual 37, 3) := ld0 (k := 123) (q := (267, .invokevirtual 37, 3)) rfl
theorem dl270 : decode code 270 = .ok (.aload_n 2, 1) := ld0 (k := 124) (q := (270, .aload_n 2, 1)) rfl
theorem dl271 : decode code 271 = .ok (.aload_n 0, 1) := ld0 (k := 125) (q := (271, .aload_n 0, 1)) rfl
theorem dl272 : decode code 272 = .ok (.iload_n 3, 1) := ld1 (k := 0) (q := (272, .iload_n 3, 1)) rfl
theorem dl273 : decode code 273 = .ok (.iconst 1, 1) := ld1 (k := 1) (q := (273, .iconst 1, 1)) rfl
theorem dl274 : decode code 274 = .ok (.iadd, 1) := ld1 (k := 2) (q := (274, .iadd, 1)) rfl
theorem dl275 : decode code 275 = .ok (.iaload, 1) := ld1 (k := 3) (q := (275, .iaload, 1)) rfl
theorem dl276 : decode code 276 = .ok (.invokevirtual 40, 3) := ld1 (k := 4) (q := (276, .invokevirtual 40, 3)) rfl
theorem dl279 : decode code 279 = .ok (.if_icmp .eq 463, 3) := ld1 (k := 5) (q := (279, .if_icmp .eq 463, 3)) rfl
theorem dl282 : decode code 282 = .ok (.iconst 0, 1) := ld1 (k := 6) (q := (282, .iconst 0, 1)) rfl
theorem dl283 : decode code 283 = .ok (.ireturn, 1) := ld1 (k := 7) (q := (283, .ireturn, 1)) rfl
theorem dl284 : decode code 284 = .ok (.aload_n 1, 1) := ld1 (k := 8) (q := (284, .aload_n 1, 1)) rfl
theorem dl285 : decode code 285 = .ok (.aload_n 0, 1) := ld1 (k := 9) (q := (285, .aload_n 0, 1)) rfl
theorem dl286 : decode code 286 = .ok (.iload_n 3, 1) := ld1 (k := 10) (q := (286, .iload_n 3, 1)) rfl
theorem dl287 : decode code 287 = .ok (.iconst 1, 1) := ld1 (k := 11) (q := (287, .iconst 1, 1)) rfl
theorem dl288 : decode code 288 = .ok (.iadd, 1) := ld1 (k := 12) (q := (288, .iadd, 1)) rfl
theorem dl289 : decode code 289 = .ok (.iaload, 1) := ld1 (k := 13) (q := (289, .iaload, 1)) rfl
theorem dl290 : decode code 290 = .ok (.invokevirtual 41, 3) := ld1 (k := 14) (q := (290, .invokevirtual 41, 3)) rfl
theorem dl293 : decode code 293 = .ok (.aload_n 2, 1) := ld1 (k := 15) (q := (293, .aload_n 2, 1)) rfl
theorem dl294 : decode code 294 = .ok (.aload_n 0, 1) := ld1 (k := 16) (q := (294, .aload_n 0, 1)) rfl
theorem dl295 : decode code 295 = .ok (.iload_n 3, 1) := ld1 (k := 17) (q := (295, .iload_n 3, 1)) rfl
theorem dl296 : decode code 296 = .ok (.iconst 1, 1) := ld1 (k := 18) (q := (296, .iconst 1, 1)) rfl
theorem dl297 : decode code 297 = .ok (.iadd, 1) := ld1 (k := 19) (q := (297, .iadd, 1)) rfl
theorem dl298 : decode code 298 = .ok (.iaload, 1) := ld1 (k := 20) (q := (298, .iaload, 1)) rfl
theorem dl299 : decode code 299 = .ok (.invokevirtual 44, 3) := ld1 (k := 21) (q := (299, .invokevirtual 44, 3)) rfl
theorem dl302 : decode code 302 = .ok (.if_icmp .eq 440, 3) := ld1 (k := 22) (q := (302, .if_icmp .eq 440, 3)) rfl
theorem dl305 : decode code 305 = .ok (.iconst 0, 1) := ld1 (k := 23) (q := (305, .iconst 0, 1)) rfl
theorem dl306 : decode code 306 = .ok (.ireturn, 1) := ld1 (k := 24) (q := (306, .ireturn, 1)) rfl
theorem dl307 : decode code 307 = .ok (.aload_n 1, 1) := ld1 (k := 25) (q := (307, .aload_n 1, 1)) rfl
theorem dl308 : decode code 308 = .ok (.aload_n 0, 1) := ld1 (k := 26) (q := (308, .aload_n 0, 1)) rfl
theorem dl309 : decode code 309 = .ok (.iload_n 3, 1) := ld1 (k := 27) (q := (309, .iload_n 3, 1)) rfl
theorem dl310 : decode code 310 = .ok (.iconst 1, 1) := ld1 (k := 28) (q := (310, .iconst 1, 1)) rfl
theorem dl311 : decode code 311 = .ok (.iadd, 1) := ld1 (k := 29) (q := (311, .iadd, 1)) rfl
theorem dl312 : decode code 312 = .ok (.iaload, 1) := ld1 (k := 30) (q := (312, .iaload, 1)) rfl
theorem dl313 : decode code 313 = .ok (.invokevirtual 45, 3) := ld1 (k := 31) (q := (313, .invokevirtual 45, 3)) rfl
theorem dl316 : decode code 316 = .ok (.aload_n 2, 1) := ld1 (k := 32) (q := (316, .aload_n 2, 1)) rfl
theorem dl317 : decode code 317 = .ok (.aload_n 0, 1) := ld1 (k := 33) (q := (317, .aload_n 0, 1)) rfl
theorem dl318 : decode code 318 = .ok (.iload_n 3, 1) := ld1 (k := 34) (q := (318, .iload_n 3, 1)) rfl
theorem dl319 : decode code 319 = .ok (.iconst 1, 1) := ld1 (k := 35) (q := (319, .iconst 1, 1)) rfl
theorem dl320 : decode code 320 = .ok (.iadd, 1) := ld1 (k := 36) (q := (320, .iadd, 1)) rfl
theorem dl321 : decode code 321 = .ok (.iaload, 1) := ld1 (k := 37) (q := (321, .iaload, 1)) rfl
theorem dl322 : decode code 322 = .ok (.invokevirtual 48, 3) := ld1 (k := 38) (q := (322, .invokevirtual 48, 3)) rfl
theorem dl325 : decode code 325 = .ok (.if_icmp .eq 417, 3) := ld1 (k := 39) (q := (325, .if_icmp .eq 417, 3)) rfl
theorem dl328 : decode code 328 = .ok (.iconst 0, 1) := ld1 (k := 40) (q := (328, .iconst 0, 1)) rfl
theorem dl329 : decode code 329 = .ok (.ireturn, 1) := ld1 (k := 41) (q := (329, .ireturn, 1)) rfl
theorem dl330 : decode code 330 = .ok (.aload_n 1, 1) := ld1 (k := 42) (q := (330, .aload_n 1, 1)) rfl
theorem dl331 : decode code 331 = .ok (.invokevirtual 49, 3) := ld1 (k := 43) (q := (331, .invokevirtual 49, 3)) rfl
theorem dl334 : decode code 334 = .ok (.aload_n 2, 1) := ld1 (k := 44) (q := (334, .aload_n 2, 1)) rfl
theorem dl335 : decode code 335 = .ok (.invokevirtual 52, 3) := ld1 (k := 45) (q := (335, .invokevirtual 52, 3)) rfl
theorem dl338 : decode code 338 = .ok (.if_icmp .eq 404, 3) := ld1 (k := 46) (q := (338, .if_icmp .eq 404, 3)) rfl
theorem dl341 : decode code 341 = .ok (.iconst 0, 1) := ld1 (k := 47) (q := (341, .iconst 0, 1)) rfl
theorem dl342 : decode code 342 = .ok (.ireturn, 1) := ld1 (k := 48) (q := (342, .ireturn, 1)) rfl
theorem dl343 : decode code 343 = .ok (.aload_n 1, 1) := ld1 (k := 49) (q := (343, .aload_n 1, 1)) rfl
theorem dl344 : decode code 344 = .ok (.aload_n 0, 1) := ld1 (k := 50) (q := (344, .aload_n 0, 1)) rfl
theorem dl345 : decode code 345 = .ok (.iload_n 3, 1) := ld1 (k := 51) (q := (345, .iload_n 3, 1)) rfl
theorem dl346 : decode code 346 = .ok (.iconst 1, 1) := ld1 (k := 52) (q := (346, .iconst 1, 1)) rfl
theorem dl347 : decode code 347 = .ok (.iadd, 1) := ld1 (k := 53) (q := (347, .iadd, 1)) rfl
theorem dl348 : decode code 348 = .ok (.iaload, 1) := ld1 (k := 54) (q := (348, .iaload, 1)) rfl
theorem dl349 : decode code 349 = .ok (.aload_n 0, 1) := ld1 (k := 55) (q := (349, .aload_n 0, 1)) rfl
theorem dl350 : decode code 350 = .ok (.iload_n 3, 1) := ld1 (k := 56) (q := (350, .iload_n 3, 1)) rfl
theorem dl351 : decode code 351 = .ok (.iconst 2, 1) := ld1 (k := 57) (q := (351, .iconst 2, 1)) rfl
theorem dl352 : decode code 352 = .ok (.iadd, 1) := ld1 (k := 58) (q := (352, .iadd, 1)) rfl
theorem dl353 : decode code 353 = .ok (.iaload, 1) := ld1 (k := 59) (q := (353, .iaload, 1)) rfl
theorem dl354 : decode code 354 = .ok (.aload_n 0, 1) := ld1 (k := 60) (q := (354, .aload_n 0, 1)) rfl
theorem dl355 : decode code 355 = .ok (.iload_n 3, 1) := ld1 (k := 61) (q := (355, .iload_n 3, 1)) rfl
theorem dl356 : decode code 356 = .ok (.iconst 3, 1) := ld1 (k := 62) (q := (356, .iconst 3, 1)) rfl
theorem dl357 : decode code 357 = .ok (.iadd, 1) := ld1 (k := 63) (q := (357, .iadd, 1)) rfl
theorem dl358 : decode code 358 = .ok (.iaload, 1) := ld1 (k := 64) (q := (358, .iaload, 1)) rfl
theorem dl359 : decode code 359 = .ok (.invokevirtual 53, 3) := ld1 (k := 65) (q := (359, .invokevirtual 53, 3)) rfl
theorem dl362 : decode code 362 = .ok (.aload_n 2, 1) := ld1 (k := 66) (q := (362, .aload_n 2, 1)) rfl
theorem dl363 : decode code 363 = .ok (.aload_n 0, 1) := ld1 (k := 67) (q := (363, .aload_n 0, 1)) rfl
theorem dl364 : decode code 364 = .ok (.iload_n 3, 1) := ld1 (k := 68) (q := (364, .iload_n 3, 1)) rfl
theorem dl365 : decode code 365 = .ok (.iconst 1, 1) := ld1 (k := 69) (q := (365, .iconst 1, 1)) rfl
theorem dl366 : decode code 366 = .ok (.iadd, 1) := ld1 (k := 70) (q := (366, .iadd, 1)) rfl
theorem dl367 : decode code 367 = .ok (.iaload, 1) := ld1 (k := 71) (q := (367, .iaload, 1)) rfl
theorem dl368 : decode code 368 = .ok (.aload_n 0, 1) := ld1 (k := 72) (q := (368, .aload_n 0, 1)) rfl
theorem dl369 : decode code 369 = .ok (.iload_n 3, 1) := ld1 (k := 73) (q := (369, .iload_n 3, 1)) rfl
theorem dl370 : decode code 370 = .ok (.iconst 2, 1) := ld1 (k := 74) (q := (370, .iconst 2, 1)) rfl
theorem dl371 : decode code 371 = .ok (.iadd, 1) := ld1 (k := 75) (q := (371, .iadd, 1)) rfl
theorem dl372 : decode code 372 = .ok (.iaload, 1) := ld1 (k := 76) (q := (372, .iaload, 1)) rfl
theorem dl373 : decode code 373 = .ok (.aload_n 0, 1) := ld1 (k := 77) (q := (373, .aload_n 0, 1)) rfl
theorem dl374 : decode code 374 = .ok (.iload_n 3, 1) := ld1 (k := 78) (q := (374, .iload_n 3, 1)) rfl
theorem dl375 : decode code 375 = .ok (.iconst 3, 1) := ld1 (k := 79) (q := (375, .iconst 3, 1)) rfl
theorem dl376 : decode code 376 = .ok (.iadd, 1) := ld1 (k := 80) (q := (376, .iadd, 1)) rfl
theorem dl377 : decode code 377 = .ok (.iaload, 1) := ld1 (k := 81) (q := (377, .iaload, 1)) rfl
theorem dl378 : decode code 378 = .ok (.invokevirtual 56, 3) := ld1 (k := 82) (q := (378, .invokevirtual 56, 3)) rfl
theorem dl381 : decode code 381 = .ok (.if_icmp .eq 361, 3) := ld1 (k := 83) (q := (381, .if_icmp .eq 361, 3)) rfl
theorem dl384 : decode code 384 = .ok (.iconst 0, 1) := ld1 (k := 84) (q := (384, .iconst 0, 1)) rfl
theorem dl385 : decode code 385 = .ok (.ireturn, 1) := ld1 (k := 85) (q := (385, .ireturn, 1)) rfl
theorem dl386 : decode code 386 = .ok (.aload_n 1, 1) := ld1 (k := 86) (q := (386, .aload_n 1, 1)) rfl
theorem dl387 : decode code 387 = .ok (.aload_n 0, 1) := ld1 (k := 87) (q := (387, .aload_n 0, 1)) rfl
theorem dl388 : decode code 388 = .ok (.iload_n 3, 1) := ld1 (k := 88) (q := (388, .iload_n 3, 1)) rfl
theorem dl389 : decode code 389 = .ok (.iconst 1, 1) := ld1 (k := 89) (q := (389, .iconst 1, 1)) rfl
theorem dl390 : decode code 390 = .ok (.iadd, 1) := ld1 (k := 90) (q := (390, .iadd, 1)) rfl
theorem dl391 : decode code 391 = .ok (.iaload, 1) := ld1 (k := 91) (q := (391, .iaload, 1)) rfl
theorem dl392 : decode code 392 = .ok (.aload_n 0, 1) := ld1 (k := 92) (q := (392, .aload_n 0, 1)) rfl
theorem dl393 : decode code 393 = .ok (.iload_n 3, 1) := ld1 (k := 93) (q := (393, .iload_n 3, 1)) rfl
theorem dl394 : decode code 394 = .ok (.iconst 2, 1) := ld1 (k := 94) (q := (394, .iconst 2, 1)) rfl
theorem dl395 : decode code 395 = .ok (.iadd, 1) := ld1 (k := 95) (q := (395, .iadd, 1)) rfl
theorem dl396 : decode code 396 = .ok (.iaload, 1) := ld1 (k := 96) (q := (396, .iaload, 1)) rfl
theorem dl397 : decode code 397 = .ok (.invokevirtual 57, 3) := ld1 (k := 97) (q := (397, .invokevirtual 57, 3)) rfl
theorem dl400 : decode code 400 = .ok (.aload_n 2, 1) := ld1 (k := 98) (q := (400, .aload_n 2, 1)) rfl
theorem dl401 : decode code 401 = .ok (.aload_n 0, 1) := ld1 (k := 99) (q := (401, .aload_n 0, 1)) rfl
theorem dl402 : decode code 402 = .ok (.iload_n 3, 1) := ld1 (k := 100) (q := (402, .iload_n 3, 1)) rfl
theorem dl403 : decode code 403 = .ok (.iconst 1, 1) := ld1 (k := 101) (q := (403, .iconst 1, 1)) rfl
theorem dl404 : decode code 404 = .ok (.iadd, 1) := ld1 (k := 102) (q := (404, .iadd, 1)) rfl
theorem dl405 : decode code 405 = .ok (.iaload, 1) := ld1 (k := 103) (q := (405, .iaload, 1)) rfl
theorem dl406 : decode code 406 = .ok (.aload_n 0, 1) := ld1 (k := 104) (q := (406, .aload_n 0, 1)) rfl
theorem dl407 : decode code 407 = .ok (.iload_n 3, 1) := ld1 (k := 105) (q := (407, .iload_n 3, 1)) rfl
theorem dl408 : decode code 408 = .ok (.iconst 2, 1) := ld1 (k := 106) (q := (408, .iconst 2, 1)) rfl
theorem dl409 : decode code 409 = .ok (.iadd, 1) := ld1 (k := 107) (q := (409, .iadd, 1)) rfl
theorem dl410 : decode code 410 = .ok (.iaload, 1) := ld1 (k := 108) (q := (410, .iaload, 1)) rfl
theorem dl411 : decode code 411 = .ok (.invokevirtual 60, 3) := ld1 (k := 109) (q := (411, .invokevirtual 60, 3)) rfl
theorem dl414 : decode code 414 = .ok (.if_icmp .eq 328, 3) := ld1 (k := 110) (q := (414, .if_icmp .eq 328, 3)) rfl
theorem dl417 : decode code 417 = .ok (.iconst 0, 1) := ld1 (k := 111) (q := (417, .iconst 0, 1)) rfl
theorem dl418 : decode code 418 = .ok (.ireturn, 1) := ld1 (k := 112) (q := (418, .ireturn, 1)) rfl
theorem dl419 : decode code 419 = .ok (.aload_n 1, 1) := ld1 (k := 113) (q := (419, .aload_n 1, 1)) rfl
theorem dl420 : decode code 420 = .ok (.aload_n 0, 1) := ld1 (k := 114) (q := (420, .aload_n 0, 1)) rfl
theorem dl421 : decode code 421 = .ok (.iload_n 3, 1) := ld1 (k := 115) (q := (421, .iload_n 3, 1)) rfl
theorem dl422 : decode code 422 = .ok (.iconst 1, 1) := ld1 (k := 116) (q := (422, .iconst 1, 1)) rfl
theorem dl423 : decode code 423 = .ok (.iadd, 1) := ld1 (k := 117) (q := (423, .iadd, 1)) rfl
theorem dl424 : decode code 424 = .ok (.iaload, 1) := ld1 (k := 118) (q := (424, .iaload, 1)) rfl
theorem dl425 : decode code 425 = .ok (.aload_n 0, 1) := ld1 (k := 119) (q := (425, .aload_n 0, 1)) rfl
theorem dl426 : decode code 426 = .ok (.iload_n 3, 1) := ld1 (k := 120) (q := (426, .iload_n 3, 1)) rfl
theorem dl427 : decode code 427 = .ok (.iconst 2, 1) := ld1 (k := 121) (q := (427, .iconst 2, 1)) rfl
theorem dl428 : decode code 428 = .ok (.iadd, 1) := ld1 (k := 122) (q := (428, .iadd, 1)) rfl
theorem dl429 : decode code 429 = .ok (.iaload, 1) := ld1 (k := 123) (q := (429, .iaload, 1)) rfl
theorem dl430 : decode code 430 = .ok (.invokevirtual 61, 3) := ld1 (k := 124) (q := (430, .invokevirtual 61, 3)) rfl
theorem dl433 : decode code 433 = .ok (.aload_n 2, 1) := ld1 (k := 125) (q := (433, .aload_n 2, 1)) rfl
theorem dl434 : decode code 434 = .ok (.aload_n 0, 1) := ld2 (k := 0) (q := (434, .aload_n 0, 1)) rfl
theorem dl435 : decode code 435 = .ok (.iload_n 3, 1) := ld2 (k := 1) (q := (435, .iload_n 3, 1)) rfl
theorem dl436 : decode code 436 = .ok (.iconst 1, 1) := ld2 (k := 2) (q := (436, .iconst 1, 1)) rfl
theorem dl437 : decode code 437 = .ok (.iadd, 1) := ld2 (k := 3) (q := (437, .iadd, 1)) rfl
theorem dl438 : decode code 438 = .ok (.iaload, 1) := ld2 (k := 4) (q := (438, .iaload, 1)) rfl
theorem dl439 : decode code 439 = .ok (.aload_n 0, 1) := ld2 (k := 5) (q := (439, .aload_n 0, 1)) rfl
theorem dl440 : decode code 440 = .ok (.iload_n 3, 1) := ld2 (k := 6) (q := (440, .iload_n 3, 1)) rfl
theorem dl441 : decode code 441 = .ok (.iconst 2, 1) := ld2 (k := 7) (q := (441, .iconst 2, 1)) rfl
theorem dl442 : decode code 442 = .ok (.iadd, 1) := ld2 (k := 8) (q := (442, .iadd, 1)) rfl
theorem dl443 : decode code 443 = .ok (.iaload, 1) := ld2 (k := 9) (q := (443, .iaload, 1)) rfl
theorem dl444 : decode code 444 = .ok (.invokevirtual 64, 3) := ld2 (k := 10) (q := (444, .invokevirtual 64, 3)) rfl
theorem dl447 : decode code 447 = .ok (.if_icmp .eq 295, 3) := ld2 (k := 11) (q := (447, .if_icmp .eq 295, 3)) rfl
theorem dl450 : decode code 450 = .ok (.iconst 0, 1) := ld2 (k := 12) (q := (450, .iconst 0, 1)) rfl
theorem dl451 : decode code 451 = .ok (.ireturn, 1) := ld2 (k := 13) (q := (451, .ireturn, 1)) rfl
theorem dl452 : decode code 452 = .ok (.aload_n 1, 1) := ld2 (k := 14) (q := (452, .aload_n 1, 1)) rfl
theorem dl453 : decode code 453 = .ok (.aload_n 0, 1) := ld2 (k := 15) (q := (453, .aload_n 0, 1)) rfl
theorem dl454 : decode code 454 = .ok (.iload_n 3, 1) := ld2 (k := 16) (q := (454, .iload_n 3, 1)) rfl
theorem dl455 : decode code 455 = .ok (.iconst 1, 1) := ld2 (k := 17) (q := (455, .iconst 1, 1)) rfl
theorem dl456 : decode code 456 = .ok (.iadd, 1) := ld2 (k := 18) (q := (456, .iadd, 1)) rfl
theorem dl457 : decode code 457 = .ok (.iaload, 1) := ld2 (k := 19) (q := (457, .iaload, 1)) rfl
theorem dl458 : decode code 458 = .ok (.aload_n 0, 1) := ld2 (k := 20) (q := (458, .aload_n 0, 1)) rfl
theorem dl459 : decode code 459 = .ok (.iload_n 3, 1) := ld2 (k := 21) (q := (459, .iload_n 3, 1)) rfl
theorem dl460 : decode code 460 = .ok (.iconst 2, 1) := ld2 (k := 22) (q := (460, .iconst 2, 1)) rfl
theorem dl461 : decode code 461 = .ok (.iadd, 1) := ld2 (k := 23) (q := (461, .iadd, 1)) rfl
theorem dl462 : decode code 462 = .ok (.iaload, 1) := ld2 (k := 24) (q := (462, .iaload, 1)) rfl
theorem dl463 : decode code 463 = .ok (.aload_n 0, 1) := ld2 (k := 25) (q := (463, .aload_n 0, 1)) rfl
theorem dl464 : decode code 464 = .ok (.iload_n 3, 1) := ld2 (k := 26) (q := (464, .iload_n 3, 1)) rfl
theorem dl465 : decode code 465 = .ok (.iconst 3, 1) := ld2 (k := 27) (q := (465, .iconst 3, 1)) rfl
theorem dl466 : decode code 466 = .ok (.iadd, 1) := ld2 (k := 28) (q := (466, .iadd, 1)) rfl
theorem dl467 : decode code 467 = .ok (.iaload, 1) := ld2 (k := 29) (q := (467, .iaload, 1)) rfl
theorem dl468 : decode code 468 = .ok (.invokevirtual 65, 3) := ld2 (k := 30) (q := (468, .invokevirtual 65, 3)) rfl
theorem dl471 : decode code 471 = .ok (.aload_n 2, 1) := ld2 (k := 31) (q := (471, .aload_n 2, 1)) rfl
theorem dl472 : decode code 472 = .ok (.aload_n 0, 1) := ld2 (k := 32) (q := (472, .aload_n 0, 1)) rfl
theorem dl473 : decode code 473 = .ok (.iload_n 3, 1) := ld2 (k := 33) (q := (473, .iload_n 3, 1)) rfl
theorem dl474 : decode code 474 = .ok (.iconst 1, 1) := ld2 (k := 34) (q := (474, .iconst 1, 1)) rfl
theorem dl475 : decode code 475 = .ok (.iadd, 1) := ld2 (k := 35) (q := (475, .iadd, 1)) rfl
theorem dl476 : decode code 476 = .ok (.iaload, 1) := ld2 (k := 36) (q := (476, .iaload, 1)) rfl
theorem dl477 : decode code 477 = .ok (.aload_n 0, 1) := ld2 (k := 37) (q := (477, .aload_n 0, 1)) rfl
theorem dl478 : decode code 478 = .ok (.iload_n 3, 1) := ld2 (k := 38) (q := (478, .iload_n 3, 1)) rfl
theorem dl479 : decode code 479 = .ok (.iconst 2, 1) := ld2 (k := 39) (q := (479, .iconst 2, 1)) rfl
theorem dl480 : decode code 480 = .ok (.iadd, 1) := ld2 (k := 40) (q := (480, .iadd, 1)) rfl
theorem dl481 : decode code 481 = .ok (.iaload, 1) := ld2 (k := 41) (q := (481, .iaload, 1)) rfl
theorem dl482 : decode code 482 = .ok (.aload_n 0, 1) := ld2 (k := 42) (q := (482, .aload_n 0, 1)) rfl
theorem dl483 : decode code 483 = .ok (.iload_n 3, 1) := ld2 (k := 43) (q := (483, .iload_n 3, 1)) rfl
theorem dl484 : decode code 484 = .ok (.iconst 3, 1) := ld2 (k := 44) (q := (484, .iconst 3, 1)) rfl
theorem dl485 : decode code 485 = .ok (.iadd, 1) := ld2 (k := 45) (q := (485, .iadd, 1)) rfl
theorem dl486 : decode code 486 = .ok (.iaload, 1) := ld2 (k := 46) (q := (486, .iaload, 1)) rfl
theorem dl487 : decode code 487 = .ok (.invokevirtual 68, 3) := ld2 (k := 47) (q := (487, .invokevirtual 68, 3)) rfl
theorem dl490 : decode code 490 = .ok (.if_icmp .eq 252, 3) := ld2 (k := 48) (q := (490, .if_icmp .eq 252, 3)) rfl
theorem dl493 : decode code 493 = .ok (.iconst 0, 1) := ld2 (k := 49) (q := (493, .iconst 0, 1)) rfl
theorem dl494 : decode code 494 = .ok (.ireturn, 1) := ld2 (k := 50) (q := (494, .ireturn, 1)) rfl
theorem dl495 : decode code 495 = .ok (.aload_n 1, 1) := ld2 (k := 51) (q := (495, .aload_n 1, 1)) rfl
theorem dl496 : decode code 496 = .ok (.aload_n 0, 1) := ld2 (k := 52) (q := (496, .aload_n 0, 1)) rfl
theorem dl497 : decode code 497 = .ok (.iload_n 3, 1) := ld2 (k := 53) (q := (497, .iload_n 3, 1)) rfl
theorem dl498 : decode code 498 = .ok (.iconst 1, 1) := ld2 (k := 54) (q := (498, .iconst 1, 1)) rfl
theorem dl499 : decode code 499 = .ok (.iadd, 1) := ld2 (k := 55) (q := (499, .iadd, 1)) rfl
theorem dl500 : decode code 500 = .ok (.iaload, 1) := ld2 (k := 56) (q := (500, .iaload, 1)) rfl
theorem dl501 : decode code 501 = .ok (.aload_n 0, 1) := ld2 (k := 57) (q := (501, .aload_n 0, 1)) rfl
theorem dl502 : decode code 502 = .ok (.iload_n 3, 1) := ld2 (k := 58) (q := (502, .iload_n 3, 1)) rfl
theorem dl503 : decode code 503 = .ok (.iconst 2, 1) := ld2 (k := 59) (q := (503, .iconst 2, 1)) rfl
theorem dl504 : decode code 504 = .ok (.iadd, 1) := ld2 (k := 60) (q := (504, .iadd, 1)) rfl
theorem dl505 : decode code 505 = .ok (.iaload, 1) := ld2 (k := 61) (q := (505, .iaload, 1)) rfl
theorem dl506 : decode code 506 = .ok (.invokevirtual 69, 3) := ld2 (k := 62) (q := (506, .invokevirtual 69, 3)) rfl
theorem dl509 : decode code 509 = .ok (.aload_n 2, 1) := ld2 (k := 63) (q := (509, .aload_n 2, 1)) rfl
theorem dl510 : decode code 510 = .ok (.aload_n 0, 1) := ld2 (k := 64) (q := (510, .aload_n 0, 1)) rfl
theorem dl511 : decode code 511 = .ok (.iload_n 3, 1) := ld2 (k := 65) (q := (511, .iload_n 3, 1)) rfl
theorem dl512 : decode code 512 = .ok (.iconst 1, 1) := ld2 (k := 66) (q := (512, .iconst 1, 1)) rfl
theorem dl513 : decode code 513 = .ok (.iadd, 1) := ld2 (k := 67) (q := (513, .iadd, 1)) rfl
theorem dl514 : decode code 514 = .ok (.iaload, 1) := ld2 (k := 68) (q := (514, .iaload, 1)) rfl
theorem dl515 : decode code 515 = .ok (.aload_n 0, 1) := ld2 (k := 69) (q := (515, .aload_n 0, 1)) rfl
theorem dl516 : decode code 516 = .ok (.iload_n 3, 1) := ld2 (k := 70) (q := (516, .iload_n 3, 1)) rfl
theorem dl517 : decode code 517 = .ok (.iconst 2, 1) := ld2 (k := 71) (q := (517, .iconst 2, 1)) rfl
theorem dl518 : decode code 518 = .ok (.iadd, 1) := ld2 (k := 72) (q := (518, .iadd, 1)) rfl
theorem dl519 : decode code 519 = .ok (.iaload, 1) := ld2 (k := 73) (q := (519, .iaload, 1)) rfl
theorem dl520 : decode code 520 = .ok (.invokevirtual 72, 3) := ld2 (k := 74) (q := (520, .invokevirtual 72, 3)) rfl
theorem dl523 : decode code 523 = .ok (.if_icmp .eq 219, 3) := ld2 (k := 75) (q := (523, .if_icmp .eq 219, 3)) rfl
theorem dl526 : decode code 526 = .ok (.iconst 0, 1) := ld2 (k := 76) (q := (526, .iconst 0, 1)) rfl
theorem dl527 : decode code 527 = .ok (.ireturn, 1) := ld2 (k := 77) (q := (527, .ireturn, 1)) rfl
theorem dl528 : decode code 528 = .ok (.aload_n 1, 1) := ld2 (k := 78) (q := (528, .aload_n 1, 1)) rfl
theorem dl529 : decode code 529 = .ok (.aload_n 0, 1) := ld2 (k := 79) (q := (529, .aload_n 0, 1)) rfl
theorem dl530 : decode code 530 = .ok (.iload_n 3, 1) := ld2 (k := 80) (q := (530, .iload_n 3, 1)) rfl
theorem dl531 : decode code 531 = .ok (.iconst 1, 1) := ld2 (k := 81) (q := (531, .iconst 1, 1)) rfl
theorem dl532 : decode code 532 = .ok (.iadd, 1) := ld2 (k := 82) (q := (532, .iadd, 1)) rfl
theorem dl533 : decode code 533 = .ok (.iaload, 1) := ld2 (k := 83) (q := (533, .iaload, 1)) rfl
theorem dl534 : decode code 534 = .ok (.aload_n 0, 1) := ld2 (k := 84) (q := (534, .aload_n 0, 1)) rfl
theorem dl535 : decode code 535 = .ok (.iload_n 3, 1) := ld2 (k := 85) (q := (535, .iload_n 3, 1)) rfl
theorem dl536 : decode code 536 = .ok (.iconst 2, 1) := ld2 (k := 86) (q := (536, .iconst 2, 1)) rfl
theorem dl537 : decode code 537 = .ok (.iadd, 1) := ld2 (k := 87) (q := (537, .iadd, 1)) rfl
theorem dl538 : decode code 538 = .ok (.iaload, 1) := ld2 (k := 88) (q := (538, .iaload, 1)) rfl
theorem dl539 : decode code 539 = .ok (.invokevirtual 73, 3) := ld2 (k := 89) (q := (539, .invokevirtual 73, 3)) rfl
theorem dl542 : decode code 542 = .ok (.aload_n 2, 1) := ld2 (k := 90) (q := (542, .aload_n 2, 1)) rfl
theorem dl543 : decode code 543 = .ok (.aload_n 0, 1) := ld2 (k := 91) (q := (543, .aload_n 0, 1)) rfl
theorem dl544 : decode code 544 = .ok (.iload_n 3, 1) := ld2 (k := 92) (q := (544, .iload_n 3, 1)) rfl
theorem dl545 : decode code 545 = .ok (.iconst 1, 1) := ld2 (k := 93) (q := (545, .iconst 1, 1)) rfl
theorem dl546 : decode code 546 = .ok (.iadd, 1) := ld2 (k := 94) (q := (546, .iadd, 1)) rfl
theorem dl547 : decode code 547 = .ok (.iaload, 1) := ld2 (k := 95) (q := (547, .iaload, 1)) rfl
theorem dl548 : decode code 548 = .ok (.aload_n 0, 1) := ld2 (k := 96) (q := (548, .aload_n 0, 1)) rfl
theorem dl549 : decode code 549 = .ok (.iload_n 3, 1) := ld2 (k := 97) (q := (549, .iload_n 3, 1)) rfl
theorem dl550 : decode code 550 = .ok (.iconst 2, 1) := ld2 (k := 98) (q := (550, .iconst 2, 1)) rfl
theorem dl551 : decode code 551 = .ok (.iadd, 1) := ld2 (k := 99) (q := (551, .iadd, 1)) rfl
theorem dl552 : decode code 552 = .ok (.iaload, 1) := ld2 (k := 100) (q := (552, .iaload, 1)) rfl
theorem dl553 : decode code 553 = .ok (.invokevirtual 76, 3) := ld2 (k := 101) (q := (553, .invokevirtual 76, 3)) rfl
theorem dl556 : decode code 556 = .ok (.if_icmp .eq 186, 3) := ld2 (k := 102) (q := (556, .if_icmp .eq 186, 3)) rfl
theorem dl559 : decode code 559 = .ok (.iconst 0, 1) := ld2 (k := 103) (q := (559, .iconst 0, 1)) rfl
theorem dl560 : decode code 560 = .ok (.ireturn, 1) := ld2 (k := 104) (q := (560, .ireturn, 1)) rfl
theorem dl561 : decode code 561 = .ok (.aload_n 1, 1) := ld2 (k := 105) (q := (561, .aload_n 1, 1)) rfl
theorem dl562 : decode code 562 = .ok (.aload_n 0, 1) := ld2 (k := 106) (q := (562, .aload_n 0, 1)) rfl
theorem dl563 : decode code 563 = .ok (.iload_n 3, 1) := ld2 (k := 107) (q := (563, .iload_n 3, 1)) rfl
theorem dl564 : decode code 564 = .ok (.iconst 1, 1) := ld2 (k := 108) (q := (564, .iconst 1, 1)) rfl
theorem dl565 : decode code 565 = .ok (.iadd, 1) := ld2 (k := 109) (q := (565, .iadd, 1)) rfl
theorem dl566 : decode code 566 = .ok (.iaload, 1) := ld2 (k := 110) (q := (566, .iaload, 1)) rfl
theorem dl567 : decode code 567 = .ok (.aload_n 0, 1) := ld2 (k := 111) (q := (567, .aload_n 0, 1)) rfl
theorem dl568 : decode code 568 = .ok (.iload_n 3, 1) := ld2 (k := 112) (q := (568, .iload_n 3, 1)) rfl
theorem dl569 : decode code 569 = .ok (.iconst 2, 1) := ld2 (k := 113) (q := (569, .iconst 2, 1)) rfl
theorem dl570 : decode code 570 = .ok (.iadd, 1) := ld2 (k := 114) (q := (570, .iadd, 1)) rfl
theorem dl571 : decode code 571 = .ok (.iaload, 1) := ld2 (k := 115) (q := (571, .iaload, 1)) rfl
theorem dl572 : decode code 572 = .ok (.invokevirtual 77, 3) := ld2 (k := 116) (q := (572, .invokevirtual 77, 3)) rfl
theorem dl575 : decode code 575 = .ok (.aload_n 2, 1) := ld2 (k := 117) (q := (575, .aload_n 2, 1)) rfl
theorem dl576 : decode code 576 = .ok (.aload_n 0, 1) := ld2 (k := 118) (q := (576, .aload_n 0, 1)) rfl
theorem dl577 : decode code 577 = .ok (.iload_n 3, 1) := ld2 (k := 119) (q := (577, .iload_n 3, 1)) rfl
theorem dl578 : decode code 578 = .ok (.iconst 1, 1) := ld2 (k := 120) (q := (578, .iconst 1, 1)) rfl
theorem dl579 : decode code 579 = .ok (.iadd, 1) := ld2 (k := 121) (q := (579, .iadd, 1)) rfl
theorem dl580 : decode code 580 = .ok (.iaload, 1) := ld2 (k := 122) (q := (580, .iaload, 1)) rfl
theorem dl581 : decode code 581 = .ok (.aload_n 0, 1) := ld2 (k := 123) (q := (581, .aload_n 0, 1)) rfl
theorem dl582 : decode code 582 = .ok (.iload_n 3, 1) := ld2 (k := 124) (q := (582, .iload_n 3, 1)) rfl
theorem dl583 : decode code 583 = .ok (.iconst 2, 1) := ld2 (k := 125) (q := (583, .iconst 2, 1)) rfl
theorem dl584 : decode code 584 = .ok (.iadd, 1) := ld3 (k := 0) (q := (584, .iadd, 1)) rfl
theorem dl585 : decode code 585 = .ok (.iaload, 1) := ld3 (k := 1) (q := (585, .iaload, 1)) rfl
theorem dl586 : decode code 586 = .ok (.invokevirtual 80, 3) := ld3 (k := 2) (q := (586, .invokevirtual 80, 3)) rfl
theorem dl589 : decode code 589 = .ok (.if_icmp .eq 153, 3) := ld3 (k := 3) (q := (589, .if_icmp .eq 153, 3)) rfl
theorem dl592 : decode code 592 = .ok (.iconst 0, 1) := ld3 (k := 4) (q := (592, .iconst 0, 1)) rfl
theorem dl593 : decode code 593 = .ok (.ireturn, 1) := ld3 (k := 5) (q := (593, .ireturn, 1)) rfl
theorem dl594 : decode code 594 = .ok (.aload_n 1, 1) := ld3 (k := 6) (q := (594, .aload_n 1, 1)) rfl
theorem dl595 : decode code 595 = .ok (.aload_n 0, 1) := ld3 (k := 7) (q := (595, .aload_n 0, 1)) rfl
theorem dl596 : decode code 596 = .ok (.iload_n 3, 1) := ld3 (k := 8) (q := (596, .iload_n 3, 1)) rfl
theorem dl597 : decode code 597 = .ok (.iconst 1, 1) := ld3 (k := 9) (q := (597, .iconst 1, 1)) rfl
theorem dl598 : decode code 598 = .ok (.iadd, 1) := ld3 (k := 10) (q := (598, .iadd, 1)) rfl
theorem dl599 : decode code 599 = .ok (.iaload, 1) := ld3 (k := 11) (q := (599, .iaload, 1)) rfl
theorem dl600 : decode code 600 = .ok (.aload_n 0, 1) := ld3 (k := 12) (q := (600, .aload_n 0, 1)) rfl
theorem dl601 : decode code 601 = .ok (.iload_n 3, 1) := ld3 (k := 13) (q := (601, .iload_n 3, 1)) rfl
theorem dl602 : decode code 602 = .ok (.iconst 2, 1) := ld3 (k := 14) (q := (602, .iconst 2, 1)) rfl
theorem dl603 : decode code 603 = .ok (.iadd, 1) := ld3 (k := 15) (q := (603, .iadd, 1)) rfl
theorem dl604 : decode code 604 = .ok (.iaload, 1) := ld3 (k := 16) (q := (604, .iaload, 1)) rfl
theorem dl605 : decode code 605 = .ok (.aload_n 0, 1) := ld3 (k := 17) (q := (605, .aload_n 0, 1)) rfl
theorem dl606 : decode code 606 = .ok (.iload_n 3, 1) := ld3 (k := 18) (q := (606, .iload_n 3, 1)) rfl
theorem dl607 : decode code 607 = .ok (.iconst 3, 1) := ld3 (k := 19) (q := (607, .iconst 3, 1)) rfl
theorem dl608 : decode code 608 = .ok (.iadd, 1) := ld3 (k := 20) (q := (608, .iadd, 1)) rfl
theorem dl609 : decode code 609 = .ok (.iaload, 1) := ld3 (k := 21) (q := (609, .iaload, 1)) rfl
theorem dl610 : decode code 610 = .ok (.aload_n 0, 1) := ld3 (k := 22) (q := (610, .aload_n 0, 1)) rfl
theorem dl611 : decode code 611 = .ok (.iload_n 3, 1) := ld3 (k := 23) (q := (611, .iload_n 3, 1)) rfl
theorem dl612 : decode code 612 = .ok (.iconst 4, 1) := ld3 (k := 24) (q := (612, .iconst 4, 1)) rfl
theorem dl613 : decode code 613 = .ok (.iadd, 1) := ld3 (k := 25) (q := (613, .iadd, 1)) rfl
theorem dl614 : decode code 614 = .ok (.iaload, 1) := ld3 (k := 26) (q := (614, .iaload, 1)) rfl
theorem dl615 : decode code 615 = .ok (.invokevirtual 81, 3) := ld3 (k := 27) (q := (615, .invokevirtual 81, 3)) rfl
theorem dl618 : decode code 618 = .ok (.aload_n 2, 1) := ld3 (k := 28) (q := (618, .aload_n 2, 1)) rfl
theorem dl619 : decode code 619 = .ok (.aload_n 0, 1) := ld3 (k := 29) (q := (619, .aload_n 0, 1)) rfl
theorem dl620 : decode code 620 = .ok (.iload_n 3, 1) := ld3 (k := 30) (q := (620, .iload_n 3, 1)) rfl
theorem dl621 : decode code 621 = .ok (.iconst 1, 1) := ld3 (k := 31) (q := (621, .iconst 1, 1)) rfl
theorem dl622 : decode code 622 = .ok (.iadd, 1) := ld3 (k := 32) (q := (622, .iadd, 1)) rfl
theorem dl623 : decode code 623 = .ok (.iaload, 1) := ld3 (k := 33) (q := (623, .iaload, 1)) rfl
theorem dl624 : decode code 624 = .ok (.aload_n 0, 1) := ld3 (k := 34) (q := (624, .aload_n 0, 1)) rfl
theorem dl625 : decode code 625 = .ok (.iload_n 3, 1) := ld3 (k := 35) (q := (625, .iload_n 3, 1)) rfl
theorem dl626 : decode code 626 = .ok (.iconst 2, 1) := ld3 (k := 36) (q := (626, .iconst 2, 1)) rfl
theorem dl627 : decode code 627 = .ok (.iadd, 1) := ld3 (k := 37) (q := (627, .iadd, 1)) rfl
theorem dl628 : decode code 628 = .ok (.iaload, 1) := ld3 (k := 38) (q := (628, .iaload, 1)) rfl
theorem dl629 : decode code 629 = .ok (.aload_n 0, 1) := ld3 (k := 39) (q := (629, .aload_n 0, 1)) rfl
theorem dl630 : decode code 630 = .ok (.iload_n 3, 1) := ld3 (k := 40) (q := (630, .iload_n 3, 1)) rfl
theorem dl631 : decode code 631 = .ok (.iconst 3, 1) := ld3 (k := 41) (q := (631, .iconst 3, 1)) rfl
theorem dl632 : decode code 632 = .ok (.iadd, 1) := ld3 (k := 42) (q := (632, .iadd, 1)) rfl
theorem dl633 : decode code 633 = .ok (.iaload, 1) := ld3 (k := 43) (q := (633, .iaload, 1)) rfl
theorem dl634 : decode code 634 = .ok (.aload_n 0, 1) := ld3 (k := 44) (q := (634, .aload_n 0, 1)) rfl
theorem dl635 : decode code 635 = .ok (.iload_n 3, 1) := ld3 (k := 45) (q := (635, .iload_n 3, 1)) rfl
theorem dl636 : decode code 636 = .ok (.iconst 4, 1) := ld3 (k := 46) (q := (636, .iconst 4, 1)) rfl
theorem dl637 : decode code 637 = .ok (.iadd, 1) := ld3 (k := 47) (q := (637, .iadd, 1)) rfl
theorem dl638 : decode code 638 = .ok (.iaload, 1) := ld3 (k := 48) (q := (638, .iaload, 1)) rfl
theorem dl639 : decode code 639 = .ok (.invokevirtual 85, 3) := ld3 (k := 49) (q := (639, .invokevirtual 85, 3)) rfl
theorem dl642 : decode code 642 = .ok (.if_icmp .eq 100, 3) := ld3 (k := 50) (q := (642, .if_icmp .eq 100, 3)) rfl
theorem dl645 : decode code 645 = .ok (.iconst 0, 1) := ld3 (k := 51) (q := (645, .iconst 0, 1)) rfl
theorem dl646 : decode code 646 = .ok (.ireturn, 1) := ld3 (k := 52) (q := (646, .ireturn, 1)) rfl
theorem dl647 : decode code 647 = .ok (.aload_n 1, 1) := ld3 (k := 53) (q := (647, .aload_n 1, 1)) rfl
theorem dl648 : decode code 648 = .ok (.invokevirtual 86, 3) := ld3 (k := 54) (q := (648, .invokevirtual 86, 3)) rfl
theorem dl651 : decode code 651 = .ok (.aload_n 2, 1) := ld3 (k := 55) (q := (651, .aload_n 2, 1)) rfl
theorem dl652 : decode code 652 = .ok (.invokevirtual 89, 3) := ld3 (k := 56) (q := (652, .invokevirtual 89, 3)) rfl
theorem dl655 : decode code 655 = .ok (.if_icmp .eq 87, 3) := ld3 (k := 57) (q := (655, .if_icmp .eq 87, 3)) rfl
theorem dl658 : decode code 658 = .ok (.iconst 0, 1) := ld3 (k := 58) (q := (658, .iconst 0, 1)) rfl
theorem dl659 : decode code 659 = .ok (.ireturn, 1) := ld3 (k := 59) (q := (659, .ireturn, 1)) rfl
theorem dl660 : decode code 660 = .ok (.aload_n 1, 1) := ld3 (k := 60) (q := (660, .aload_n 1, 1)) rfl
theorem dl661 : decode code 661 = .ok (.invokevirtual 90, 3) := ld3 (k := 61) (q := (661, .invokevirtual 90, 3)) rfl
theorem dl664 : decode code 664 = .ok (.aload_n 2, 1) := ld3 (k := 62) (q := (664, .aload_n 2, 1)) rfl
theorem dl665 : decode code 665 = .ok (.invokevirtual 93, 3) := ld3 (k := 63) (q := (665, .invokevirtual 93, 3)) rfl
theorem dl668 : decode code 668 = .ok (.if_icmp .eq 74, 3) := ld3 (k := 64) (q := (668, .if_icmp .eq 74, 3)) rfl
theorem dl671 : decode code 671 = .ok (.iconst 0, 1) := ld3 (k := 65) (q := (671, .iconst 0, 1)) rfl
theorem dl672 : decode code 672 = .ok (.ireturn, 1) := ld3 (k := 66) (q := (672, .ireturn, 1)) rfl
theorem dl673 : decode code 673 = .ok (.aload_n 1, 1) := ld3 (k := 67) (q := (673, .aload_n 1, 1)) rfl
theorem dl674 : decode code 674 = .ok (.aload_n 0, 1) := ld3 (k := 68) (q := (674, .aload_n 0, 1)) rfl
theorem dl675 : decode code 675 = .ok (.iload_n 3, 1) := ld3 (k := 69) (q := (675, .iload_n 3, 1)) rfl
theorem dl676 : decode code 676 = .ok (.iconst 1, 1) := ld3 (k := 70) (q := (676, .iconst 1, 1)) rfl
theorem dl677 : decode code 677 = .ok (.iadd, 1) := ld3 (k := 71) (q := (677, .iadd, 1)) rfl
theorem dl678 : decode code 678 = .ok (.iaload, 1) := ld3 (k := 72) (q := (678, .iaload, 1)) rfl
theorem dl679 : decode code 679 = .ok (.invokevirtual 94, 3) := ld3 (k := 73) (q := (679, .invokevirtual 94, 3)) rfl
theorem dl682 : decode code 682 = .ok (.aload_n 2, 1) := ld3 (k := 74) (q := (682, .aload_n 2, 1)) rfl
theorem dl683 : decode code 683 = .ok (.aload_n 0, 1) := ld3 (k := 75) (q := (683, .aload_n 0, 1)) rfl
theorem dl684 : decode code 684 = .ok (.iload_n 3, 1) := ld3 (k := 76) (q := (684, .iload_n 3, 1)) rfl
theorem dl685 : decode code 685 = .ok (.iconst 1, 1) := ld3 (k := 77) (q := (685, .iconst 1, 1)) rfl
theorem dl686 : decode code 686 = .ok (.iadd, 1) := ld3 (k := 78) (q := (686, .iadd, 1)) rfl
theorem dl687 : decode code 687 = .ok (.iaload, 1) := ld3 (k := 79) (q := (687, .iaload, 1)) rfl
theorem dl688 : decode code 688 = .ok (.invokevirtual 97, 3) := ld3 (k := 80) (q := (688, .invokevirtual 97, 3)) rfl
theorem dl691 : decode code 691 = .ok (.if_icmp .eq 51, 3) := ld3 (k := 81) (q := (691, .if_icmp .eq 51, 3)) rfl
theorem dl694 : decode code 694 = .ok (.iconst 0, 1) := ld3 (k := 82) (q := (694, .iconst 0, 1)) rfl
theorem dl695 : decode code 695 = .ok (.ireturn, 1) := ld3 (k := 83) (q := (695, .ireturn, 1)) rfl
theorem dl696 : decode code 696 = .ok (.aload_n 1, 1) := ld3 (k := 84) (q := (696, .aload_n 1, 1)) rfl
theorem dl697 : decode code 697 = .ok (.aload_n 0, 1) := ld3 (k := 85) (q := (697, .aload_n 0, 1)) rfl
theorem dl698 : decode code 698 = .ok (.iload_n 3, 1) := ld3 (k := 86) (q := (698, .iload_n 3, 1)) rfl
theorem dl699 : decode code 699 = .ok (.iconst 1, 1) := ld3 (k := 87) (q := (699, .iconst 1, 1)) rfl
theorem dl700 : decode code 700 = .ok (.iadd, 1) := ld3 (k := 88) (q := (700, .iadd, 1)) rfl
theorem dl701 : decode code 701 = .ok (.iaload, 1) := ld3 (k := 89) (q := (701, .iaload, 1)) rfl
theorem dl702 : decode code 702 = .ok (.invokevirtual 98, 3) := ld3 (k := 90) (q := (702, .invokevirtual 98, 3)) rfl
theorem dl705 : decode code 705 = .ok (.aload_n 2, 1) := ld3 (k := 91) (q := (705, .aload_n 2, 1)) rfl
theorem dl706 : decode code 706 = .ok (.aload_n 0, 1) := ld3 (k := 92) (q := (706, .aload_n 0, 1)) rfl
theorem dl707 : decode code 707 = .ok (.iload_n 3, 1) := ld3 (k := 93) (q := (707, .iload_n 3, 1)) rfl
theorem dl708 : decode code 708 = .ok (.iconst 1, 1) := ld3 (k := 94) (q := (708, .iconst 1, 1)) rfl
theorem dl709 : decode code 709 = .ok (.iadd, 1) := ld3 (k := 95) (q := (709, .iadd, 1)) rfl
theorem dl710 : decode code 710 = .ok (.iaload, 1) := ld3 (k := 96) (q := (710, .iaload, 1)) rfl
theorem dl711 : decode code 711 = .ok (.invokevirtual 101, 3) := ld3 (k := 97) (q := (711, .invokevirtual 101, 3)) rfl
theorem dl714 : decode code 714 = .ok (.if_icmp .eq 28, 3) := ld3 (k := 98) (q := (714, .if_icmp .eq 28, 3)) rfl
theorem dl717 : decode code 717 = .ok (.iconst 0, 1) := ld3 (k := 99) (q := (717, .iconst 0, 1)) rfl
theorem dl718 : decode code 718 = .ok (.ireturn, 1) := ld3 (k := 100) (q := (718, .ireturn, 1)) rfl
theorem dl719 : decode code 719 = .ok (.aload_n 1, 1) := ld3 (k := 101) (q := (719, .aload_n 1, 1)) rfl
theorem dl720 : decode code 720 = .ok (.aload_n 0, 1) := ld3 (k := 102) (q := (720, .aload_n 0, 1)) rfl
theorem dl721 : decode code 721 = .ok (.iload_n 3, 1) := ld3 (k := 103) (q := (721, .iload_n 3, 1)) rfl
theorem dl722 : decode code 722 = .ok (.iconst 1, 1) := ld3 (k := 104) (q := (722, .iconst 1, 1)) rfl
theorem dl723 : decode code 723 = .ok (.iadd, 1) := ld3 (k := 105) (q := (723, .iadd, 1)) rfl
theorem dl724 : decode code 724 = .ok (.iaload, 1) := ld3 (k := 106) (q := (724, .iaload, 1)) rfl
theorem dl725 : decode code 725 = .ok (.invokevirtual 102, 3) := ld3 (k := 107) (q := (725, .invokevirtual 102, 3)) rfl
theorem dl728 : decode code 728 = .ok (.aload_n 2, 1) := ld3 (k := 108) (q := (728, .aload_n 2, 1)) rfl
theorem dl729 : decode code 729 = .ok (.aload_n 0, 1) := ld3 (k := 109) (q := (729, .aload_n 0, 1)) rfl
theorem dl730 : decode code 730 = .ok (.iload_n 3, 1) := ld3 (k := 110) (q := (730, .iload_n 3, 1)) rfl
theorem dl731 : decode code 731 = .ok (.iconst 1, 1) := ld3 (k := 111) (q := (731, .iconst 1, 1)) rfl
theorem dl732 : decode code 732 = .ok (.iadd, 1) := ld3 (k := 112) (q := (732, .iadd, 1)) rfl
theorem dl733 : decode code 733 = .ok (.iaload, 1) := ld3 (k := 113) (q := (733, .iaload, 1)) rfl
theorem dl734 : decode code 734 = .ok (.invokevirtual 105, 3) := ld3 (k := 114) (q := (734, .invokevirtual 105, 3)) rfl
theorem dl737 : decode code 737 = .ok (.if_icmp .eq 5, 3) := ld3 (k := 115) (q := (737, .if_icmp .eq 5, 3)) rfl
theorem dl740 : decode code 740 = .ok (.iconst 0, 1) := ld3 (k := 116) (q := (740, .iconst 0, 1)) rfl
theorem dl741 : decode code 741 = .ok (.ireturn, 1) := ld3 (k := 117) (q := (741, .ireturn, 1)) rfl
theorem dl742 : decode code 742 = .ok (.iinc 3 5, 3) := ld3 (k := 118) (q := (742, .iinc 3 5, 3)) rfl
theorem dl745 : decode code 745 = .ok (.goto (-727), 3) := ld3 (k := 119) (q := (745, .goto (-727), 3)) rfl
theorem dl748 : decode code 748 = .ok (.iconst 1, 1) := ld3 (k := 120) (q := (748, .iconst 1, 1)) rfl
theorem dl749 : decode code 749 = .ok (.ireturn, 1) := ld3 (k := 121) (q := (749, .ireturn, 1)) rfl
