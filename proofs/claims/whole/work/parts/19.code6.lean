/-! codes, functions and contracts of methods -/
def cd_162 : List tm_E := [(0, .aload_n 0, 1, 0, 0, 0), (1, .invokevirtual 440, 3, 154, 0, 45), (4, .istore_n 1, 1, 0, 0, 0), (5, .aload_n 0, 1, 0, 0, 0), (6, .invokevirtual 443, 3, 155, 0, 44), (9, .iload_n 1, 1, 0, 0, 0), (10, .ifCond .ne 17, 3, 27, 0, 0), (13, .aload_n 0, 1, 0, 0, 0), (14, .invokevirtual 446, 3, 156, 0, 45), (17, .ifCond .ne 10, 3, 27, 0, 0), (20, .aload_n 0, 1, 0, 0, 0), (21, .invokevirtual 449, 3, 157, 0, 45), (24, .ifCond .eq 7, 3, 31, 0, 0), (27, .iconst 1, 1, 0, 0, 0), (28, .goto 4, 3, 32, 0, 0), (31, .iconst 0, 1, 0, 0, 0), (32, .istore_n 2, 1, 0, 0, 0), (33, .iload_n 2, 1, 0, 0, 0), (34, .ifCond .eq 10, 3, 44, 0, 0), (37, .aload_n 0, 1, 0, 0, 0), (38, .invokevirtual 452, 3, 158, 0, 44), (41, .goto 7, 3, 48, 0, 0), (44, .aload_n 0, 1, 0, 0, 0), (45, .invokevirtual 455, 3, 160, 0, 44), (48, .aload_n 0, 1, 0, 0, 0), (49, .invokevirtual 458, 3, 161, 0, 44), (52, .aload_n 0, 1, 0, 0, 0), (53, .aload_n 0, 1, 0, 0, 0), (54, .getfield 104, 3, 11, 44, 2), (57, .aload_n 0, 1, 0, 0, 0), (58, .getfield 384, 3, 11, 59, 0), (61, .iaload, 1, 0, 0, 0), (62, .putfield 391, 3, 11, 65, 0), (65, .return_, 1, 0, 0, 0)]
def cu_162 : List (Nat × List Nat) := [(4, [0]), (9, [0, 1]), (17, [0]), (24, [0]), (27, [0]), (32, [0]), (41, [0]), (48, [0]), (52, [0])]
noncomputable def G_162 : tm_G := fun id as M => if id = 154 then F_154 as M else if id = 155 then F_155 as M else if id = 156 then F_156 as M else if id = 157 then F_157 as M else if id = 158 then F_158 as M else if id = 160 then F_160 as M else if id = 161 then F_161 as M else none
noncomputable def F_162 : List Value → tm_M → Option tm_R := tm_m tm_sh none G_162 false cd_162 cu_162 35 3
theorem gg_162 : tm_Gg G_162 := by
  intro id as M r h
  unfold G_162 at h
  rcases tm_ite_e h with ⟨_, h⟩ | ⟨_, h⟩
  · exact gr_154 h
  rcases tm_ite_e h with ⟨_, h⟩ | ⟨_, h⟩
  · exact gr_155 h
  rcases tm_ite_e h with ⟨_, h⟩ | ⟨_, h⟩
  · exact gr_156 h
  rcases tm_ite_e h with ⟨_, h⟩ | ⟨_, h⟩
  · exact gr_157 h
  rcases tm_ite_e h with ⟨_, h⟩ | ⟨_, h⟩
  · exact gr_158 h
  rcases tm_ite_e h with ⟨_, h⟩ | ⟨_, h⟩
  · exact gr_160 h
  rcases tm_ite_e h with ⟨_, h⟩ | ⟨_, h⟩
  · exact gr_161 h
  cases h
theorem gm_162 (l : Launch) : ∀ id as M r, G_162 id as M = some r → tm_MA tm_sh l (tm_mt id) as M r := by
  intro id as M r h
  unfold G_162 at h
  rcases tm_ite_e h with ⟨rfl, h⟩ | ⟨_, h⟩
  · exact con_154 l h
  rcases tm_ite_e h with ⟨rfl, h⟩ | ⟨_, h⟩
  · exact con_155 l h
  rcases tm_ite_e h with ⟨rfl, h⟩ | ⟨_, h⟩
  · exact con_156 l h
  rcases tm_ite_e h with ⟨rfl, h⟩ | ⟨_, h⟩
  · exact con_157 l h
  rcases tm_ite_e h with ⟨rfl, h⟩ | ⟨_, h⟩
  · exact con_158 l h
  rcases tm_ite_e h with ⟨rfl, h⟩ | ⟨_, h⟩
  · exact con_160 l h
  rcases tm_ite_e h with ⟨rfl, h⟩ | ⟨_, h⟩
  · exact con_161 l h
  cases h
theorem gr_162 {as : List Value} {M : tm_M} {r : tm_R} (h : F_162 as M = some r) : tm_gr M r.2 := tm_m_gr gg_162 h
theorem ck_162 : tm_cdk (tm_mt 162).1.cls false tm_mt (tm_mt 162) false cd_162 := tm_cdk_of (LK := lk_RX11) (ix := [202, 203, 204, 205, 206, 207, 208, 188, 182, 176]) lc_RX11 (by decide +kernel)
theorem con_162 (l : Launch) {as : List Value} {M : tm_M} {r : tm_R} (h : F_162 as M = some r) : tm_MA tm_sh l (tm_mt 162) as M r := tm_sound (t := tm_mt 162) tm_Sok_ok tm_CL_ok gg_162 (gm_162 l) (fun _ _ => ⟨rfl, rfl⟩) ck_162 (by decide +kernel) (fun h => by cases h) (fun _ _ _ _ => tm_nos_all (by decide +kernel)) h
def cd_163 : List tm_E := [(0, .iconst 0, 1, 0, 0, 0), (1, .istore_n 1, 1, 0, 0, 0), (2, .iload_n 1, 1, 0, 0, 0), (3, .bipush 6, 2, 0, 0, 0), (5, .if_icmp .ge 121, 3, 126, 0, 0), (8, .aload_n 0, 1, 0, 0, 0), (9, .getfield 107, 3, 11, 45, 2), (12, .sipush 200, 3, 0, 0, 0), (15, .iload_n 1, 1, 0, 0, 0), (16, .imul, 1, 0, 0, 0), (17, .aload_n 0, 1, 0, 0, 0), (18, .getfield 384, 3, 11, 59, 0), (21, .iadd, 1, 0, 0, 0), (22, .aload_n 0, 1, 0, 0, 0), (23, .getfield 80, 3, 11, 36, 2), (26, .iload_n 1, 1, 0, 0, 0), (27, .iaload, 1, 0, 0, 0), (28, .iastore, 1, 0, 0, 0), (29, .aload_n 0, 1, 0, 0, 0), (30, .getfield 110, 3, 11, 46, 2), (33, .sipush 200, 3, 0, 0, 0), (36, .iload_n 1, 1, 0, 0, 0), (37, .imul, 1, 0, 0, 0), (38, .aload_n 0, 1, 0, 0, 0), (39, .getfield 384, 3, 11, 59, 0), (42, .iadd, 1, 0, 0, 0), (43, .aload_n 0, 1, 0, 0, 0), (44, .getfield 80, 3, 11, 36, 2), (47, .iload_n 1, 1, 0, 0, 0), (48, .iaload, 1, 0, 0, 0), (49, .iconst 1, 1, 0, 0, 0), (50, .if_icmp .ne 12, 3, 62, 0, 0), (53, .aload_n 0, 1, 0, 0, 0), (54, .getfield 83, 3, 11, 37, 2), (57, .iload_n 1, 1, 0, 0, 0), (58, .iaload, 1, 0, 0, 0), (59, .goto 4, 3, 63, 0, 0), (62, .iconst (-1), 1, 0, 0, 0), (63, .iastore, 1, 0, 0, 0), (64, .aload_n 0, 1, 0, 0, 0), (65, .getfield 113, 3, 11, 47, 2), (68, .sipush 200, 3, 0, 0, 0), (71, .iload_n 1, 1, 0, 0, 0), (72, .imul, 1, 0, 0, 0), (73, .aload_n 0, 1, 0, 0, 0), (74, .getfield 384, 3, 11, 59, 0), (77, .iadd, 1, 0, 0, 0), (78, .aload_n 0, 1, 0, 0, 0), (79, .getfield 80, 3, 11, 36, 2), (82, .iload_n 1, 1, 0, 0, 0), (83, .iaload, 1, 0, 0, 0), (84, .iconst 1, 1, 0, 0, 0), (85, .if_icmp .ne 12, 3, 97, 0, 0), (88, .aload_n 0, 1, 0, 0, 0), (89, .getfield 86, 3, 11, 38, 2), (92, .iload_n 1, 1, 0, 0, 0), (93, .iaload, 1, 0, 0, 0), (94, .goto 4, 3, 98, 0, 0), (97, .iconst (-1), 1, 0, 0, 0), (98, .iastore, 1, 0, 0, 0), (99, .aload_n 0, 1, 0, 0, 0), (100, .getfield 116, 3, 11, 48, 2), (103, .sipush 200, 3, 0, 0, 0), (106, .iload_n 1, 1, 0, 0, 0), (107, .imul, 1, 0, 0, 0), (108, .aload_n 0, 1, 0, 0, 0), (109, .getfield 384, 3, 11, 59, 0), (112, .iadd, 1, 0, 0, 0), (113, .aload_n 0, 1, 0, 0, 0), (114, .getfield 89, 3, 11, 39, 2), (117, .iload_n 1, 1, 0, 0, 0), (118, .iaload, 1, 0, 0, 0), (119, .iastore, 1, 0, 0, 0), (120, .iinc 1 1, 3, 0, 0, 0), (123, .goto (-121), 3, 2, 0, 0), (126, .return_, 1, 0, 0, 0)]
def cu_163 : List (Nat × List Nat) := [(2, [0, 1]), (63, [0, 1]), (98, [0, 1])]
def G_163 : tm_G := fun _ _ _ => none
noncomputable def F_163 : List Value → tm_M → Option tm_R := tm_m tm_sh none G_163 false cd_163 cu_163 77 2
theorem gg_163 : tm_Gg G_163 := fun _ _ _ _ h => by cases h
theorem gm_163 (l : Launch) : ∀ id as M r, G_163 id as M = some r → tm_MA tm_sh l (tm_mt id) as M r := fun _ _ _ _ h => by cases h
theorem gr_163 {as : List Value} {M : tm_M} {r : tm_R} (h : F_163 as M = some r) : tm_gr M r.2 := tm_m_gr gg_163 h
theorem ck_163 : tm_cdk (tm_mt 163).1.cls false tm_mt (tm_mt 163) false cd_163 := tm_cdk_of (LK := lk_RX11) (ix := [209, 182, 163, 210, 182, 163, 164, 211, 182, 163, 165, 212, 182, 166]) lc_RX11 (by decide +kernel)
theorem con_163 (l : Launch) {as : List Value} {M : tm_M} {r : tm_R} (h : F_163 as M = some r) : tm_MA tm_sh l (tm_mt 163) as M r := tm_sound (t := tm_mt 163) tm_Sok_ok tm_CL_ok gg_163 (gm_163 l) (fun _ _ => ⟨rfl, rfl⟩) ck_163 (by decide +kernel) (fun h => by cases h) (fun _ _ _ _ => tm_nos_all (by decide +kernel)) h
def cd_164 : List tm_E := [(0, .aload_n 0, 1, 0, 0, 0), (1, .getfield 308, 3, 11, 32, 0), (4, .ifCond .ne 7, 3, 11, 0, 0), (7, .ldc_w 418, 3, 100000, 0, 0), (10, .ireturn, 1, 0, 0, 0), (11, .aload_n 0, 1, 0, 0, 0), (12, .invokevirtual 419, 3, 146, 0, 44), (15, .aload_n 0, 1, 0, 0, 0), (16, .aload_n 0, 1, 0, 0, 0), (17, .getfield 56, 3, 11, 24, 2), (20, .aload_n 0, 1, 0, 0, 0), (21, .getfield 372, 3, 11, 30, 0), (24, .iaload, 1, 0, 0, 0), (25, .putfield 422, 3, 11, 64, 0), (28, .bipush 60, 2, 0, 0, 0), (30, .aload_n 0, 1, 0, 0, 0), (31, .getfield 372, 3, 11, 30, 0), (34, .imul, 1, 0, 0, 0), (35, .istore_n 1, 1, 0, 0, 0), (36, .iload_n 1, 1, 0, 0, 0), (37, .aload_n 0, 1, 0, 0, 0), (38, .getfield 53, 3, 11, 23, 2), (41, .aload_n 0, 1, 0, 0, 0), (42, .getfield 372, 3, 11, 30, 0), (45, .iaload, 1, 0, 0, 0), (46, .iadd, 1, 0, 0, 0), (47, .istore_n 2, 1, 0, 0, 0), (48, .aload_n 0, 1, 0, 0, 0), (49, .iconst 0, 1, 0, 0, 0), (50, .putfield 384, 3, 11, 59, 0), (53, .aload_n 0, 1, 0, 0, 0), (54, .getfield 384, 3, 11, 59, 0), (57, .aload_n 0, 1, 0, 0, 0), (58, .getfield 422, 3, 11, 64, 0), (61, .if_icmp .ge 116, 3, 177, 0, 0), (64, .aload_n 0, 1, 0, 0, 0), (65, .getfield 403, 3, 11, 66, 0), (68, .ifCond .le 7, 3, 75, 0, 0), (71, .iconst 1, 1, 0, 0, 0), (72, .goto 4, 3, 76, 0, 0), (75, .iconst 0, 1, 0, 0, 0), (76, .istore_n 3, 1, 0, 0, 0), (77, .iload_n 1, 1, 0, 0, 0), (78, .iload_n 2, 1, 0, 0, 0), (79, .if_icmp .ge 66, 3, 145, 0, 0), (82, .aload_n 0, 1, 0, 0, 0), (83, .getfield 59, 3, 11, 25, 2), (86, .iload_n 1, 1, 0, 0, 0), (87, .iaload, 1, 0, 0, 0), (88, .aload_n 0, 1, 0, 0, 0), (89, .getfield 384, 3, 11, 59, 0), (92, .if_icmp .ne 53, 3, 145, 0, 0), (95, .iload_n 3, 1, 0, 0, 0), (96, .ifCond .eq 7, 3, 103, 0, 0), (99, .iconst 0, 1, 0, 0, 0), (100, .goto 8, 3, 108, 0, 0), (103, .aload_n 0, 1, 0, 0, 0), (104, .iload_n 1, 1, 0, 0, 0), (105, .invokevirtual 425, 3, 149, 1, 45), (108, .istore 4, 2, 0, 0, 0), (110, .iload 4, 2, 0, 0, 0), (112, .ifCond .le 18, 3, 130, 0, 0), (115, .aload_n 0, 1, 0, 0, 0), (116, .iload 4, 2, 0, 0, 0), (118, .aload_n 0, 1, 0, 0, 0), (119, .getfield 62, 3, 11, 26, 2), (122, .iload_n 1, 1, 0, 0, 0), (123, .iaload, 1, 0, 0, 0), (124, .invokevirtual 400, 3, 150, 2, 44), (127, .goto 12, 3, 139, 0, 0), (130, .iload_n 3, 1, 0, 0, 0), (131, .ifCond .ne 8, 3, 139, 0, 0), (134, .aload_n 0, 1, 0, 0, 0), (135, .iload_n 1, 1, 0, 0, 0), (136, .invokevirtual 428, 3, 151, 1, 44), (139, .iinc 1 1, 3, 0, 0, 0), (142, .goto (-65), 3, 77, 0, 0), (145, .iload_n 3, 1, 0, 0, 0), (146, .ifCond .eq 10, 3, 156, 0, 0), (149, .aload_n 0, 1, 0, 0, 0), (150, .invokevirtual 431, 3, 152, 0, 44), (153, .goto 7, 3, 160, 0, 0), (156, .aload_n 0, 1, 0, 0, 0), (157, .invokevirtual 434, 3, 162, 0, 44), (160, .aload_n 0, 1, 0, 0, 0), (161, .invokevirtual 437, 3, 163, 0, 44), (164, .aload_n 0, 1, 0, 0, 0), (165, .dup, 1, 0, 0, 0), (166, .getfield 384, 3, 11, 59, 0), (169, .iconst 1, 1, 0, 0, 0), (170, .iadd, 1, 0, 0, 0), (171, .putfield 384, 3, 11, 59, 0), (174, .goto (-121), 3, 53, 0, 0), (177, .aload_n 0, 1, 0, 0, 0), (178, .iconst 1, 1, 0, 0, 0), (179, .putfield 311, 3, 11, 33, 3), (182, .aload_n 0, 1, 0, 0, 0), (183, .getfield 409, 3, 11, 62, 0), (186, .aload_n 0, 1, 0, 0, 0), (187, .getfield 77, 3, 11, 35, 0), (190, .aload_n 0, 1, 0, 0, 0), (191, .getfield 381, 3, 11, 60, 0), (194, .imul, 1, 0, 0, 0), (195, .isub, 1, 0, 0, 0), (196, .ireturn, 1, 0, 0, 0)]
def cu_164 : List (Nat × List Nat) := [(15, [0]), (53, [0, 1, 2]), (76, [0, 1, 2]), (77, [0, 1, 2, 3]), (108, [0, 1, 2, 3]), (127, [0, 1, 2, 3]), (139, [0, 1, 2, 3]), (145, [0, 1, 2, 3]), (153, [0, 1, 2]), (160, [0, 1, 2]), (164, [0, 1, 2])]
noncomputable def G_164 : tm_G := fun id as M => if id = 146 then F_146 as M else if id = 149 then F_149 as M else if id = 150 then F_150 as M else if id = 151 then F_151 as M else if id = 152 then F_152 as M else if id = 162 then F_162 as M else if id = 163 then F_163 as M else none
noncomputable def F_164 : List Value → tm_M → Option tm_R := tm_m tm_sh none G_164 false cd_164 cu_164 106 5
theorem gg_164 : tm_Gg G_164 := by
  intro id as M r h
  unfold G_164 at h
  rcases tm_ite_e h with ⟨_, h⟩ | ⟨_, h⟩
  · exact gr_146 h
  rcases tm_ite_e h with ⟨_, h⟩ | ⟨_, h⟩
  · exact gr_149 h
  rcases tm_ite_e h with ⟨_, h⟩ | ⟨_, h⟩
  · exact gr_150 h
  rcases tm_ite_e h with ⟨_, h⟩ | ⟨_, h⟩
  · exact gr_151 h
  rcases tm_ite_e h with ⟨_, h⟩ | ⟨_, h⟩
  · exact gr_152 h
  rcases tm_ite_e h with ⟨_, h⟩ | ⟨_, h⟩
  · exact gr_162 h
  rcases tm_ite_e h with ⟨_, h⟩ | ⟨_, h⟩
  · exact gr_163 h
  cases h
theorem gm_164 (l : Launch) : ∀ id as M r, G_164 id as M = some r → tm_MA tm_sh l (tm_mt id) as M r := by
  intro id as M r h
  unfold G_164 at h
  rcases tm_ite_e h with ⟨rfl, h⟩ | ⟨_, h⟩
  · exact con_146 l h
  rcases tm_ite_e h with ⟨rfl, h⟩ | ⟨_, h⟩
  · exact con_149 l h
  rcases tm_ite_e h with ⟨rfl, h⟩ | ⟨_, h⟩
  · exact con_150 l h
  rcases tm_ite_e h with ⟨rfl, h⟩ | ⟨_, h⟩
  · exact con_151 l h
  rcases tm_ite_e h with ⟨rfl, h⟩ | ⟨_, h⟩
  · exact con_152 l h
  rcases tm_ite_e h with ⟨rfl, h⟩ | ⟨_, h⟩
  · exact con_162 l h
  rcases tm_ite_e h with ⟨rfl, h⟩ | ⟨_, h⟩
  · exact con_163 l h
  cases h
theorem gr_164 {as : List Value} {M : tm_M} {r : tm_R} (h : F_164 as M = some r) : tm_gr M r.2 := tm_m_gr gg_164 h
theorem ck_164 : tm_cdk (tm_mt 164).1.cls false tm_mt (tm_mt 164) false cd_164 := tm_cdk_of (LK := lk_RX11) (ix := [213, 214, 215, 143, 148, 216, 148, 140, 148, 217, 182, 218, 190, 142, 182, 219, 144, 192, 220, 221, 222, 223, 182, 217, 139, 194, 224, 180]) lc_RX11 (by decide +kernel)
theorem con_164 (l : Launch) {as : List Value} {M : tm_M} {r : tm_R} (h : F_164 as M = some r) : tm_MA tm_sh l (tm_mt 164) as M r := tm_sound (t := tm_mt 164) tm_Sok_ok tm_CL_ok gg_164 (gm_164 l) (fun _ _ => ⟨rfl, rfl⟩) ck_164 (by decide +kernel) (fun h => by cases h) (fun _ _ _ _ => tm_nos_all (by decide +kernel)) h
def cd_165 : List tm_E := [(0, .aload_n 0, 1, 0, 0, 0), (1, .getfield 23, 3, 10, 2, 2), (4, .getfield 101, 3, 9, 0, 2), (7, .getfield 149, 3, 4, 5, 0), (10, .ifCond .ne 5, 3, 15, 0, 0), (13, .iconst (-1), 1, 0, 0, 0), (14, .ireturn, 1, 0, 0, 0), (15, .iload_n 1, 1, 0, 0, 0), (16, .tableswitch 91 0 4 #[36, 47, 58, 69, 80], 36, 0, 0, 0), (52, .aload_n 0, 1, 0, 0, 0), (53, .getfield 23, 3, 10, 2, 2), (56, .getfield 101, 3, 9, 0, 2), (59, .getfield 152, 3, 4, 6, 0), (62, .ireturn, 1, 0, 0, 0), (63, .aload_n 0, 1, 0, 0, 0), (64, .getfield 23, 3, 10, 2, 2), (67, .getfield 101, 3, 9, 0, 2), (70, .getfield 146, 3, 4, 7, 0), (73, .ireturn, 1, 0, 0, 0), (74, .aload_n 0, 1, 0, 0, 0), (75, .getfield 23, 3, 10, 2, 2), (78, .getfield 101, 3, 9, 0, 2), (81, .getfield 155, 3, 4, 8, 0), (84, .ireturn, 1, 0, 0, 0), (85, .aload_n 0, 1, 0, 0, 0), (86, .getfield 23, 3, 10, 2, 2), (89, .getfield 101, 3, 9, 0, 2), (92, .getfield 143, 3, 4, 9, 0), (95, .ireturn, 1, 0, 0, 0), (96, .aload_n 0, 1, 0, 0, 0), (97, .getfield 23, 3, 10, 2, 2), (100, .getfield 101, 3, 9, 0, 2), (103, .getfield 158, 3, 4, 10, 0), (106, .ireturn, 1, 0, 0, 0), (107, .iconst (-1), 1, 0, 0, 0), (108, .ireturn, 1, 0, 0, 0)]
def cu_165 : List (Nat × List Nat) := []
def G_165 : tm_G := fun _ _ _ => none
noncomputable def F_165 : List Value → tm_M → Option tm_R := tm_m tm_sh none G_165 false cd_165 cu_165 37 2
theorem gg_165 : tm_Gg G_165 := fun _ _ _ _ h => by cases h
theorem gm_165 (l : Launch) : ∀ id as M r, G_165 id as M = some r → tm_MA tm_sh l (tm_mt id) as M r := fun _ _ _ _ h => by cases h
theorem gr_165 {as : List Value} {M : tm_M} {r : tm_R} (h : F_165 as M = some r) : tm_gr M r.2 := tm_m_gr gg_165 h
theorem ck_165 : tm_cdk (tm_mt 165).1.cls false tm_mt (tm_mt 165) false cd_165 := tm_cdk_of (LK := lk_RX10) (ix := [41, 42, 62, 41, 42, 63, 41, 42, 61, 41, 42, 64, 41, 42, 59, 41, 42, 65]) lc_RX10 (by decide +kernel)
theorem con_165 (l : Launch) {as : List Value} {M : tm_M} {r : tm_R} (h : F_165 as M = some r) : tm_MA tm_sh l (tm_mt 165) as M r := tm_sound (t := tm_mt 165) tm_Sok_ok tm_CL_ok gg_165 (gm_165 l) (fun _ _ => ⟨rfl, rfl⟩) ck_165 (by decide +kernel) (fun h => by cases h) (fun _ _ _ _ => tm_nos_all (by decide +kernel)) h
def cd_166 : List tm_E := [(0, .aload_n 0, 1, 0, 0, 0), (1, .getfield 311, 3, 11, 33, 0), (4, .ifCond .ne 5, 3, 9, 0, 0), (7, .iconst (-1), 1, 0, 0, 0), (8, .ireturn, 1, 0, 0, 0), (9, .iload_n 1, 1, 0, 0, 0), (10, .tableswitch 59 0 4 #[34, 39, 44, 49, 54], 34, 0, 0, 0), (44, .aload_n 0, 1, 0, 0, 0), (45, .getfield 422, 3, 11, 64, 0), (48, .ireturn, 1, 0, 0, 0), (49, .aload_n 0, 1, 0, 0, 0), (50, .getfield 381, 3, 11, 60, 0), (53, .ireturn, 1, 0, 0, 0), (54, .aload_n 0, 1, 0, 0, 0), (55, .getfield 412, 3, 11, 61, 0), (58, .ireturn, 1, 0, 0, 0), (59, .aload_n 0, 1, 0, 0, 0), (60, .getfield 409, 3, 11, 62, 0), (63, .ireturn, 1, 0, 0, 0), (64, .aload_n 0, 1, 0, 0, 0), (65, .getfield 415, 3, 11, 63, 0), (68, .ireturn, 1, 0, 0, 0), (69, .iconst (-1), 1, 0, 0, 0), (70, .ireturn, 1, 0, 0, 0)]
def cu_166 : List (Nat × List Nat) := []
def G_166 : tm_G := fun _ _ _ => none
noncomputable def F_166 : List Value → tm_M → Option tm_R := tm_m tm_sh none G_166 false cd_166 cu_166 25 2
theorem gg_166 : tm_Gg G_166 := fun _ _ _ _ h => by cases h
theorem gm_166 (l : Launch) : ∀ id as M r, G_166 id as M = some r → tm_MA tm_sh l (tm_mt id) as M r := fun _ _ _ _ h => by cases h
theorem gr_166 {as : List Value} {M : tm_M} {r : tm_R} (h : F_166 as M = some r) : tm_gr M r.2 := tm_m_gr gg_166 h
theorem ck_166 : tm_cdk (tm_mt 166).1.cls false tm_mt (tm_mt 166) false cd_166 := tm_cdk_of (LK := lk_RX11) (ix := [225, 218, 180, 195, 194, 189]) lc_RX11 (by decide +kernel)
theorem con_166 (l : Launch) {as : List Value} {M : tm_M} {r : tm_R} (h : F_166 as M = some r) : tm_MA tm_sh l (tm_mt 166) as M r := tm_sound (t := tm_mt 166) tm_Sok_ok tm_CL_ok gg_166 (gm_166 l) (fun _ _ => ⟨rfl, rfl⟩) ck_166 (by decide +kernel) (fun h => by cases h) (fun _ _ _ _ => tm_nos_all (by decide +kernel)) h
def cd_167 : List tm_E := [(0, .aload_n 0, 1, 0, 0, 0), (1, .getfield 29, 3, 4, 5, 0), (4, .ifCond .eq 35, 3, 39, 0, 0), (7, .iload_n 1, 1, 0, 0, 0), (8, .ifCond .lt 31, 3, 39, 0, 0), (11, .iload_n 1, 1, 0, 0, 0), (12, .aload_n 0, 1, 0, 0, 0), (13, .getfield 43, 3, 4, 7, 0), (16, .if_icmp .ge 23, 3, 39, 0, 0), (19, .iload_n 1, 1, 0, 0, 0), (20, .sipush 200, 3, 0, 0, 0), (23, .if_icmp .ge 16, 3, 39, 0, 0), (26, .iload_n 2, 1, 0, 0, 0), (27, .ifCond .lt 12, 3, 39, 0, 0), (30, .iload_n 2, 1, 0, 0, 0), (31, .iconst 3, 1, 0, 0, 0), (32, .if_icmp .ge 7, 3, 39, 0, 0), (35, .iconst 1, 1, 0, 0, 0), (36, .goto 4, 3, 40, 0, 0), (39, .iconst 0, 1, 0, 0, 0), (40, .istore_n 3, 1, 0, 0, 0), (41, .iload_n 3, 1, 0, 0, 0), (42, .ifCond .eq 16, 3, 58, 0, 0), (45, .aload_n 0, 1, 0, 0, 0), (46, .getfield 11, 3, 4, 0, 2), (49, .iload_n 1, 1, 0, 0, 0), (50, .iconst 3, 1, 0, 0, 0), (51, .imul, 1, 0, 0, 0), (52, .iload_n 2, 1, 0, 0, 0), (53, .iadd, 1, 0, 0, 0), (54, .iaload, 1, 0, 0, 0), (55, .goto 4, 3, 59, 0, 0), (58, .iconst (-1), 1, 0, 0, 0), (59, .ireturn, 1, 0, 0, 0)]
def cu_167 : List (Nat × List Nat) := [(39, [0, 1, 2]), (40, [0, 1, 2]), (59, [])]
def G_167 : tm_G := fun _ _ _ => none
noncomputable def F_167 : List Value → tm_M → Option tm_R := tm_m tm_sh none G_167 false cd_167 cu_167 35 4
theorem gg_167 : tm_Gg G_167 := fun _ _ _ _ h => by cases h
theorem gm_167 (l : Launch) : ∀ id as M r, G_167 id as M = some r → tm_MA tm_sh l (tm_mt id) as M r := fun _ _ _ _ h => by cases h
theorem gr_167 {as : List Value} {M : tm_M} {r : tm_R} (h : F_167 as M = some r) : tm_gr M r.2 := tm_m_gr gg_167 h
theorem ck_167 : tm_cdk (tm_mt 167).1.cls false tm_mt (tm_mt 167) false cd_167 := tm_cdk_of (LK := lk_RX4) (ix := [33, 16, 17]) lc_RX4 (by decide +kernel)
theorem con_167 (l : Launch) {as : List Value} {M : tm_M} {r : tm_R} (h : F_167 as M = some r) : tm_MA tm_sh l (tm_mt 167) as M r := tm_sound (t := tm_mt 167) tm_Sok_ok tm_CL_ok gg_167 (gm_167 l) (fun _ _ => ⟨rfl, rfl⟩) ck_167 (by decide +kernel) (fun h => by cases h) (fun _ _ _ _ => tm_nos_all (by decide +kernel)) h
def cd_168 : List tm_E := [(0, .aload_n 0, 1, 0, 0, 0), (1, .getfield 23, 3, 10, 2, 2), (4, .getfield 101, 3, 9, 0, 2), (7, .iload_n 1, 1, 0, 0, 0), (8, .iload_n 2, 1, 0, 0, 0), (9, .invokevirtual 161, 3, 167, 2, 17), (12, .ireturn, 1, 0, 0, 0)]
def cu_168 : List (Nat × List Nat) := [(12, [])]
noncomputable def G_168 : tm_G := fun id as M => if id = 167 then F_167 as M else none
noncomputable def F_168 : List Value → tm_M → Option tm_R := tm_m tm_sh none G_168 false cd_168 cu_168 8 3
theorem gg_168 : tm_Gg G_168 := by
  intro id as M r h
  unfold G_168 at h
  rcases tm_ite_e h with ⟨_, h⟩ | ⟨_, h⟩
  · exact gr_167 h
  cases h
theorem gm_168 (l : Launch) : ∀ id as M r, G_168 id as M = some r → tm_MA tm_sh l (tm_mt id) as M r := by
  intro id as M r h
  unfold G_168 at h
  rcases tm_ite_e h with ⟨rfl, h⟩ | ⟨_, h⟩
  · exact con_167 l h
  cases h
theorem gr_168 {as : List Value} {M : tm_M} {r : tm_R} (h : F_168 as M = some r) : tm_gr M r.2 := tm_m_gr gg_168 h
theorem ck_168 : tm_cdk (tm_mt 168).1.cls false tm_mt (tm_mt 168) false cd_168 := tm_cdk_of (LK := lk_RX10) (ix := [41, 42, 66]) lc_RX10 (by decide +kernel)
theorem con_168 (l : Launch) {as : List Value} {M : tm_M} {r : tm_R} (h : F_168 as M = some r) : tm_MA tm_sh l (tm_mt 168) as M r := tm_sound (t := tm_mt 168) tm_Sok_ok tm_CL_ok gg_168 (gm_168 l) (fun _ _ => ⟨rfl, rfl⟩) ck_168 (by decide +kernel) (fun h => by cases h) (fun _ _ _ _ => tm_nos_all (by decide +kernel)) h
def cd_169 : List tm_E := [(0, .aload_n 0, 1, 0, 0, 0), (1, .getfield 311, 3, 11, 33, 0), (4, .ifCond .eq 22, 3, 26, 0, 0), (7, .iload_n 1, 1, 0, 0, 0), (8, .ifCond .lt 18, 3, 26, 0, 0), (11, .iload_n 1, 1, 0, 0, 0), (12, .aload_n 0, 1, 0, 0, 0), (13, .getfield 381, 3, 11, 60, 0), (16, .if_icmp .ge 10, 3, 26, 0, 0), (19, .iload_n 1, 1, 0, 0, 0), (20, .sipush 200, 3, 0, 0, 0), (23, .if_icmp .lt 5, 3, 28, 0, 0), (26, .iconst (-1), 1, 0, 0, 0), (27, .ireturn, 1, 0, 0, 0), (28, .iload_n 2, 1, 0, 0, 0), (29, .ifCond .ne 12, 3, 41, 0, 0), (32, .aload_n 0, 1, 0, 0, 0), (33, .getfield 122, 3, 11, 50, 2), (36, .iload_n 1, 1, 0, 0, 0), (37, .iaload, 1, 0, 0, 0), (38, .goto 32, 3, 70, 0, 0), (41, .iload_n 2, 1, 0, 0, 0), (42, .iconst 1, 1, 0, 0, 0), (43, .if_icmp .ne 12, 3, 55, 0, 0), (46, .aload_n 0, 1, 0, 0, 0), (47, .getfield 125, 3, 11, 51, 2), (50, .iload_n 1, 1, 0, 0, 0), (51, .iaload, 1, 0, 0, 0), (52, .goto 18, 3, 70, 0, 0), (55, .iload_n 2, 1, 0, 0, 0), (56, .iconst 2, 1, 0, 0, 0), (57, .if_icmp .ne 12, 3, 69, 0, 0), (60, .aload_n 0, 1, 0, 0, 0), (61, .getfield 128, 3, 11, 52, 2), (64, .iload_n 1, 1, 0, 0, 0), (65, .iaload, 1, 0, 0, 0), (66, .goto 4, 3, 70, 0, 0), (69, .iconst (-1), 1, 0, 0, 0), (70, .ireturn, 1, 0, 0, 0)]
def cu_169 : List (Nat × List Nat) := [(26, []), (70, [])]
def G_169 : tm_G := fun _ _ _ => none
noncomputable def F_169 : List Value → tm_M → Option tm_R := tm_m tm_sh none G_169 false cd_169 cu_169 40 3
theorem gg_169 : tm_Gg G_169 := fun _ _ _ _ h => by cases h
theorem gm_169 (l : Launch) : ∀ id as M r, G_169 id as M = some r → tm_MA tm_sh l (tm_mt id) as M r := fun _ _ _ _ h => by cases h
theorem gr_169 {as : List Value} {M : tm_M} {r : tm_R} (h : F_169 as M = some r) : tm_gr M r.2 := tm_m_gr gg_169 h
theorem ck_169 : tm_cdk (tm_mt 169).1.cls false tm_mt (tm_mt 169) false cd_169 := tm_cdk_of (LK := lk_RX11) (ix := [225, 180, 181, 183, 184]) lc_RX11 (by decide +kernel)
theorem con_169 (l : Launch) {as : List Value} {M : tm_M} {r : tm_R} (h : F_169 as M = some r) : tm_MA tm_sh l (tm_mt 169) as M r := tm_sound (t := tm_mt 169) tm_Sok_ok tm_CL_ok gg_169 (gm_169 l) (fun _ _ => ⟨rfl, rfl⟩) ck_169 (by decide +kernel) (fun h => by cases h) (fun _ _ _ _ => tm_nos_all (by decide +kernel)) h
def cd_170 : List tm_E := [(0, .aload_n 0, 1, 0, 0, 0), (1, .getfield 29, 3, 4, 5, 0), (4, .ifCond .eq 34, 3, 38, 0, 0), (7, .iload_n 1, 1, 0, 0, 0), (8, .ifCond .lt 30, 3, 38, 0, 0), (11, .iload_n 1, 1, 0, 0, 0), (12, .aload_n 0, 1, 0, 0, 0), (13, .getfield 46, 3, 4, 8, 0), (16, .if_icmp .ge 22, 3, 38, 0, 0), (19, .iload_n 1, 1, 0, 0, 0), (20, .bipush 100, 2, 0, 0, 0), (22, .if_icmp .ge 16, 3, 38, 0, 0), (25, .iload_n 2, 1, 0, 0, 0), (26, .ifCond .lt 12, 3, 38, 0, 0), (29, .iload_n 2, 1, 0, 0, 0), (30, .iconst 5, 1, 0, 0, 0), (31, .if_icmp .ge 7, 3, 38, 0, 0), (34, .iconst 1, 1, 0, 0, 0), (35, .goto 4, 3, 39, 0, 0), (38, .iconst 0, 1, 0, 0, 0), (39, .istore_n 3, 1, 0, 0, 0), (40, .iload_n 3, 1, 0, 0, 0), (41, .ifCond .eq 16, 3, 57, 0, 0), (44, .aload_n 0, 1, 0, 0, 0), (45, .getfield 15, 3, 4, 1, 2), (48, .iload_n 1, 1, 0, 0, 0), (49, .iconst 5, 1, 0, 0, 0), (50, .imul, 1, 0, 0, 0), (51, .iload_n 2, 1, 0, 0, 0), (52, .iadd, 1, 0, 0, 0), (53, .iaload, 1, 0, 0, 0), (54, .goto 4, 3, 58, 0, 0), (57, .iconst (-1), 1, 0, 0, 0), (58, .ireturn, 1, 0, 0, 0)]
def cu_170 : List (Nat × List Nat) := [(38, [0, 1, 2]), (39, [0, 1, 2]), (58, [])]
def G_170 : tm_G := fun _ _ _ => none
noncomputable def F_170 : List Value → tm_M → Option tm_R := tm_m tm_sh none G_170 false cd_170 cu_170 35 4
theorem gg_170 : tm_Gg G_170 := fun _ _ _ _ h => by cases h
theorem gm_170 (l : Launch) : ∀ id as M r, G_170 id as M = some r → tm_MA tm_sh l (tm_mt id) as M r := fun _ _ _ _ h => by cases h
theorem gr_170 {as : List Value} {M : tm_M} {r : tm_R} (h : F_170 as M = some r) : tm_gr M r.2 := tm_m_gr gg_170 h
theorem ck_170 : tm_cdk (tm_mt 170).1.cls false tm_mt (tm_mt 170) false cd_170 := tm_cdk_of (LK := lk_RX4) (ix := [33, 28, 29]) lc_RX4 (by decide +kernel)
theorem con_170 (l : Launch) {as : List Value} {M : tm_M} {r : tm_R} (h : F_170 as M = some r) : tm_MA tm_sh l (tm_mt 170) as M r := tm_sound (t := tm_mt 170) tm_Sok_ok tm_CL_ok gg_170 (gm_170 l) (fun _ _ => ⟨rfl, rfl⟩) ck_170 (by decide +kernel) (fun h => by cases h) (fun _ _ _ _ => tm_nos_all (by decide +kernel)) h
def cd_171 : List tm_E := [(0, .aload_n 0, 1, 0, 0, 0), (1, .getfield 23, 3, 10, 2, 2), (4, .getfield 101, 3, 9, 0, 2), (7, .iload_n 1, 1, 0, 0, 0), (8, .iload_n 2, 1, 0, 0, 0), (9, .invokevirtual 165, 3, 170, 2, 17), (12, .ireturn, 1, 0, 0, 0)]
def cu_171 : List (Nat × List Nat) := [(12, [])]
noncomputable def G_171 : tm_G := fun id as M => if id = 170 then F_170 as M else none
noncomputable def F_171 : List Value → tm_M → Option tm_R := tm_m tm_sh none G_171 false cd_171 cu_171 8 3
theorem gg_171 : tm_Gg G_171 := by
  intro id as M r h
  unfold G_171 at h
  rcases tm_ite_e h with ⟨_, h⟩ | ⟨_, h⟩
  · exact gr_170 h
  cases h
theorem gm_171 (l : Launch) : ∀ id as M r, G_171 id as M = some r → tm_MA tm_sh l (tm_mt id) as M r := by
  intro id as M r h
  unfold G_171 at h
  rcases tm_ite_e h with ⟨rfl, h⟩ | ⟨_, h⟩
  · exact con_170 l h
  cases h
theorem gr_171 {as : List Value} {M : tm_M} {r : tm_R} (h : F_171 as M = some r) : tm_gr M r.2 := tm_m_gr gg_171 h
theorem ck_171 : tm_cdk (tm_mt 171).1.cls false tm_mt (tm_mt 171) false cd_171 := tm_cdk_of (LK := lk_RX10) (ix := [41, 42, 67]) lc_RX10 (by decide +kernel)
theorem con_171 (l : Launch) {as : List Value} {M : tm_M} {r : tm_R} (h : F_171 as M = some r) : tm_MA tm_sh l (tm_mt 171) as M r := tm_sound (t := tm_mt 171) tm_Sok_ok tm_CL_ok gg_171 (gm_171 l) (fun _ _ => ⟨rfl, rfl⟩) ck_171 (by decide +kernel) (fun h => by cases h) (fun _ _ _ _ => tm_nos_all (by decide +kernel)) h
def cd_172 : List tm_E := [(0, .aload_n 0, 1, 0, 0, 0), (1, .getfield 311, 3, 11, 33, 0), (4, .ifCond .eq 21, 3, 25, 0, 0), (7, .iload_n 1, 1, 0, 0, 0), (8, .ifCond .lt 17, 3, 25, 0, 0), (11, .iload_n 1, 1, 0, 0, 0), (12, .aload_n 0, 1, 0, 0, 0), (13, .getfield 412, 3, 11, 61, 0), (16, .if_icmp .ge 9, 3, 25, 0, 0), (19, .iload_n 1, 1, 0, 0, 0), (20, .bipush 100, 2, 0, 0, 0), (22, .if_icmp .lt 5, 3, 27, 0, 0), (25, .iconst (-1), 1, 0, 0, 0), (26, .ireturn, 1, 0, 0, 0), (27, .iload_n 2, 1, 0, 0, 0), (28, .tableswitch 79 0 4 #[36, 43, 50, 57, 72], 36, 0, 0, 0), (64, .aload_n 0, 1, 0, 0, 0), (65, .getfield 131, 3, 11, 53, 2), (68, .iload_n 1, 1, 0, 0, 0), (69, .iaload, 1, 0, 0, 0), (70, .ireturn, 1, 0, 0, 0), (71, .aload_n 0, 1, 0, 0, 0), (72, .getfield 134, 3, 11, 54, 2), (75, .iload_n 1, 1, 0, 0, 0), (76, .iaload, 1, 0, 0, 0), (77, .ireturn, 1, 0, 0, 0), (78, .aload_n 0, 1, 0, 0, 0), (79, .getfield 137, 3, 11, 55, 2), (82, .iload_n 1, 1, 0, 0, 0), (83, .iaload, 1, 0, 0, 0), (84, .ireturn, 1, 0, 0, 0), (85, .aload_n 0, 1, 0, 0, 0), (86, .getfield 146, 3, 11, 58, 2), (89, .iload_n 1, 1, 0, 0, 0), (90, .baload, 1, 0, 0, 0), (91, .ifCond .eq 7, 3, 98, 0, 0), (94, .iconst 1, 1, 0, 0, 0), (95, .goto 4, 3, 99, 0, 0), (98, .iconst 0, 1, 0, 0, 0), (99, .ireturn, 1, 0, 0, 0), (100, .aload_n 0, 1, 0, 0, 0), (101, .getfield 140, 3, 11, 56, 2), (104, .iload_n 1, 1, 0, 0, 0), (105, .iaload, 1, 0, 0, 0), (106, .ireturn, 1, 0, 0, 0), (107, .iconst (-1), 1, 0, 0, 0), (108, .ireturn, 1, 0, 0, 0)]
def cu_172 : List (Nat × List Nat) := [(25, []), (99, [])]
def G_172 : tm_G := fun _ _ _ => none
noncomputable def F_172 : List Value → tm_M → Option tm_R := tm_m tm_sh none G_172 false cd_172 cu_172 48 3
theorem gg_172 : tm_Gg G_172 := fun _ _ _ _ h => by cases h
theorem gm_172 (l : Launch) : ∀ id as M r, G_172 id as M = some r → tm_MA tm_sh l (tm_mt id) as M r := fun _ _ _ _ h => by cases h
theorem gr_172 {as : List Value} {M : tm_M} {r : tm_R} (h : F_172 as M = some r) : tm_gr M r.2 := tm_m_gr gg_172 h
theorem ck_172 : tm_cdk (tm_mt 172).1.cls false tm_mt (tm_mt 172) false cd_172 := tm_cdk_of (LK := lk_RX11) (ix := [225, 195, 196, 197, 198, 199, 200]) lc_RX11 (by decide +kernel)
theorem con_172 (l : Launch) {as : List Value} {M : tm_M} {r : tm_R} (h : F_172 as M = some r) : tm_MA tm_sh l (tm_mt 172) as M r := tm_sound (t := tm_mt 172) tm_Sok_ok tm_CL_ok gg_172 (gm_172 l) (fun _ _ => ⟨rfl, rfl⟩) ck_172 (by decide +kernel) (fun h => by cases h) (fun _ _ _ _ => tm_nos_all (by decide +kernel)) h
def cd_173 : List tm_E := [(0, .aload_n 0, 1, 0, 0, 0), (1, .getfield 29, 3, 4, 5, 0), (4, .ifCond .eq 19, 3, 23, 0, 0), (7, .iload_n 1, 1, 0, 0, 0), (8, .ifCond .lt 15, 3, 23, 0, 0), (11, .iload_n 1, 1, 0, 0, 0), (12, .aload_n 0, 1, 0, 0, 0), (13, .getfield 33, 3, 4, 6, 0), (16, .if_icmp .ge 7, 3, 23, 0, 0), (19, .iconst 1, 1, 0, 0, 0), (20, .goto 4, 3, 24, 0, 0), (23, .iconst 0, 1, 0, 0, 0), (24, .ireturn, 1, 0, 0, 0)]
def cu_173 : List (Nat × List Nat) := [(23, []), (24, [])]
def G_173 : tm_G := fun _ _ _ => none
noncomputable def F_173 : List Value → tm_M → Option tm_R := tm_m tm_sh none G_173 true cd_173 cu_173 14 2
theorem gg_173 : tm_Gg G_173 := fun _ _ _ _ h => by cases h
theorem gm_173 (l : Launch) : ∀ id as M r, G_173 id as M = some r → tm_MA tm_sh l (tm_mt id) as M r := fun _ _ _ _ h => by cases h
theorem gr_173 {as : List Value} {M : tm_M} {r : tm_R} (h : F_173 as M = some r) : tm_gr M r.2 := tm_m_gr gg_173 h
theorem ck_173 : tm_cdk (tm_mt 173).1.cls false tm_mt (tm_mt 173) true cd_173 := tm_cdk_of (LK := lk_RX4) (ix := [33, 18]) lc_RX4 (by decide +kernel)
theorem con_173 (l : Launch) {as : List Value} {M : tm_M} {r : tm_R} (h : F_173 as M = some r) : tm_MA tm_sh l (tm_mt 173) as M r := tm_sound (t := tm_mt 173) tm_Sok_ok tm_CL_ok gg_173 (gm_173 l) (fun _ _ => ⟨rfl, rfl⟩) ck_173 (by decide +kernel) (fun h => by cases h) (fun _ _ _ _ => tm_nos_all (by decide +kernel)) h
def cd_174 : List tm_E := [(0, .aload_n 0, 1, 0, 0, 0), (1, .iload_n 1, 1, 0, 0, 0), (2, .invokevirtual 87, 3, 173, 1, 17), (5, .ifCond .eq 12, 3, 17, 0, 0), (8, .aload_n 0, 1, 0, 0, 0), (9, .getfield 18, 3, 4, 2, 2), (12, .iload_n 1, 1, 0, 0, 0), (13, .iaload, 1, 0, 0, 0), (14, .goto 4, 3, 18, 0, 0), (17, .iconst (-1), 1, 0, 0, 0), (18, .ireturn, 1, 0, 0, 0)]
def cu_174 : List (Nat × List Nat) := [(5, [0, 1]), (18, [])]
noncomputable def G_174 : tm_G := fun id as M => if id = 173 then F_173 as M else none
noncomputable def F_174 : List Value → tm_M → Option tm_R := tm_m tm_sh none G_174 false cd_174 cu_174 12 2
theorem gg_174 : tm_Gg G_174 := by
  intro id as M r h
  unfold G_174 at h
  rcases tm_ite_e h with ⟨_, h⟩ | ⟨_, h⟩
  · exact gr_173 h
  cases h
theorem gm_174 (l : Launch) : ∀ id as M r, G_174 id as M = some r → tm_MA tm_sh l (tm_mt id) as M r := by
  intro id as M r h
  unfold G_174 at h
  rcases tm_ite_e h with ⟨rfl, h⟩ | ⟨_, h⟩
  · exact con_173 l h
  cases h
theorem gr_174 {as : List Value} {M : tm_M} {r : tm_R} (h : F_174 as M = some r) : tm_gr M r.2 := tm_m_gr gg_174 h
theorem ck_174 : tm_cdk (tm_mt 174).1.cls false tm_mt (tm_mt 174) false cd_174 := tm_cdk_of (LK := lk_RX4) (ix := [34, 19]) lc_RX4 (by decide +kernel)
theorem con_174 (l : Launch) {as : List Value} {M : tm_M} {r : tm_R} (h : F_174 as M = some r) : tm_MA tm_sh l (tm_mt 174) as M r := tm_sound (t := tm_mt 174) tm_Sok_ok tm_CL_ok gg_174 (gm_174 l) (fun _ _ => ⟨rfl, rfl⟩) ck_174 (by decide +kernel) (fun h => by cases h) (fun _ _ _ _ => tm_nos_all (by decide +kernel)) h
def cd_175 : List tm_E := [(0, .aload_n 0, 1, 0, 0, 0), (1, .getfield 23, 3, 10, 2, 2), (4, .getfield 101, 3, 9, 0, 2), (7, .iload_n 1, 1, 0, 0, 0), (8, .invokevirtual 168, 3, 174, 1, 17), (11, .ireturn, 1, 0, 0, 0)]
def cu_175 : List (Nat × List Nat) := [(11, [])]
noncomputable def G_175 : tm_G := fun id as M => if id = 174 then F_174 as M else none
noncomputable def F_175 : List Value → tm_M → Option tm_R := tm_m tm_sh none G_175 false cd_175 cu_175 7 2
theorem gg_175 : tm_Gg G_175 := by
  intro id as M r h
  unfold G_175 at h
  rcases tm_ite_e h with ⟨_, h⟩ | ⟨_, h⟩
  · exact gr_174 h
  cases h
theorem gm_175 (l : Launch) : ∀ id as M r, G_175 id as M = some r → tm_MA tm_sh l (tm_mt id) as M r := by
  intro id as M r h
  unfold G_175 at h
  rcases tm_ite_e h with ⟨rfl, h⟩ | ⟨_, h⟩
  · exact con_174 l h
  cases h
theorem gr_175 {as : List Value} {M : tm_M} {r : tm_R} (h : F_175 as M = some r) : tm_gr M r.2 := tm_m_gr gg_175 h
theorem ck_175 : tm_cdk (tm_mt 175).1.cls false tm_mt (tm_mt 175) false cd_175 := tm_cdk_of (LK := lk_RX10) (ix := [41, 42, 68]) lc_RX10 (by decide +kernel)
theorem con_175 (l : Launch) {as : List Value} {M : tm_M} {r : tm_R} (h : F_175 as M = some r) : tm_MA tm_sh l (tm_mt 175) as M r := tm_sound (t := tm_mt 175) tm_Sok_ok tm_CL_ok gg_175 (gm_175 l) (fun _ _ => ⟨rfl, rfl⟩) ck_175 (by decide +kernel) (fun h => by cases h) (fun _ _ _ _ => tm_nos_all (by decide +kernel)) h
def cd_176 : List tm_E := [(0, .aload_n 0, 1, 0, 0, 0), (1, .getfield 311, 3, 11, 33, 0), (4, .ifCond .eq 19, 3, 23, 0, 0), (7, .iload_n 1, 1, 0, 0, 0), (8, .ifCond .lt 15, 3, 23, 0, 0), (11, .iload_n 1, 1, 0, 0, 0), (12, .aload_n 0, 1, 0, 0, 0), (13, .getfield 422, 3, 11, 64, 0), (16, .if_icmp .ge 7, 3, 23, 0, 0), (19, .iconst 1, 1, 0, 0, 0), (20, .goto 4, 3, 24, 0, 0), (23, .iconst 0, 1, 0, 0, 0), (24, .ireturn, 1, 0, 0, 0)]
def cu_176 : List (Nat × List Nat) := [(23, []), (24, [])]
def G_176 : tm_G := fun _ _ _ => none
noncomputable def F_176 : List Value → tm_M → Option tm_R := tm_m tm_sh none G_176 true cd_176 cu_176 14 2
theorem gg_176 : tm_Gg G_176 := fun _ _ _ _ h => by cases h
theorem gm_176 (l : Launch) : ∀ id as M r, G_176 id as M = some r → tm_MA tm_sh l (tm_mt id) as M r := fun _ _ _ _ h => by cases h
theorem gr_176 {as : List Value} {M : tm_M} {r : tm_R} (h : F_176 as M = some r) : tm_gr M r.2 := tm_m_gr gg_176 h
theorem ck_176 : tm_cdk (tm_mt 176).1.cls false tm_mt (tm_mt 176) true cd_176 := tm_cdk_of (LK := lk_RX11) (ix := [225, 218]) lc_RX11 (by decide +kernel)
theorem con_176 (l : Launch) {as : List Value} {M : tm_M} {r : tm_R} (h : F_176 as M = some r) : tm_MA tm_sh l (tm_mt 176) as M r := tm_sound (t := tm_mt 176) tm_Sok_ok tm_CL_ok gg_176 (gm_176 l) (fun _ _ => ⟨rfl, rfl⟩) ck_176 (by decide +kernel) (fun h => by cases h) (fun _ _ _ _ => tm_nos_all (by decide +kernel)) h
def cd_177 : List tm_E := [(0, .aload_n 0, 1, 0, 0, 0), (1, .iload_n 1, 1, 0, 0, 0), (2, .invokevirtual 461, 3, 176, 1, 45), (5, .ifCond .eq 12, 3, 17, 0, 0), (8, .aload_n 0, 1, 0, 0, 0), (9, .getfield 104, 3, 11, 44, 2), (12, .iload_n 1, 1, 0, 0, 0), (13, .iaload, 1, 0, 0, 0), (14, .goto 4, 3, 18, 0, 0), (17, .iconst (-1), 1, 0, 0, 0), (18, .ireturn, 1, 0, 0, 0)]
def cu_177 : List (Nat × List Nat) := [(5, [0, 1]), (18, [])]
noncomputable def G_177 : tm_G := fun id as M => if id = 176 then F_176 as M else none
noncomputable def F_177 : List Value → tm_M → Option tm_R := tm_m tm_sh none G_177 false cd_177 cu_177 12 2
theorem gg_177 : tm_Gg G_177 := by
  intro id as M r h
  unfold G_177 at h
  rcases tm_ite_e h with ⟨_, h⟩ | ⟨_, h⟩
  · exact gr_176 h
  cases h
theorem gm_177 (l : Launch) : ∀ id as M r, G_177 id as M = some r → tm_MA tm_sh l (tm_mt id) as M r := by
  intro id as M r h
  unfold G_177 at h
  rcases tm_ite_e h with ⟨rfl, h⟩ | ⟨_, h⟩
  · exact con_176 l h
  cases h
theorem gr_177 {as : List Value} {M : tm_M} {r : tm_R} (h : F_177 as M = some r) : tm_gr M r.2 := tm_m_gr gg_177 h
theorem ck_177 : tm_cdk (tm_mt 177).1.cls false tm_mt (tm_mt 177) false cd_177 := tm_cdk_of (LK := lk_RX11) (ix := [226, 188]) lc_RX11 (by decide +kernel)
theorem con_177 (l : Launch) {as : List Value} {M : tm_M} {r : tm_R} (h : F_177 as M = some r) : tm_MA tm_sh l (tm_mt 177) as M r := tm_sound (t := tm_mt 177) tm_Sok_ok tm_CL_ok gg_177 (gm_177 l) (fun _ _ => ⟨rfl, rfl⟩) ck_177 (by decide +kernel) (fun h => by cases h) (fun _ _ _ _ => tm_nos_all (by decide +kernel)) h
def cd_178 : List tm_E := [(0, .iload_n 1, 1, 0, 0, 0), (1, .invokestatic 91, 3, 114, 1, 1), (4, .ifCond .eq 11, 3, 15, 0, 0), (7, .aload_n 0, 1, 0, 0, 0), (8, .iload_n 2, 1, 0, 0, 0), (9, .invokevirtual 87, 3, 173, 1, 17), (12, .ifCond .ne 5, 3, 17, 0, 0), (15, .iconst (-1), 1, 0, 0, 0), (16, .ireturn, 1, 0, 0, 0), (17, .aload_n 0, 1, 0, 0, 0), (18, .getfield 21, 3, 4, 3, 2), (21, .iload_n 2, 1, 0, 0, 0), (22, .bipush 6, 2, 0, 0, 0), (24, .imul, 1, 0, 0, 0), (25, .iload_n 1, 1, 0, 0, 0), (26, .iadd, 1, 0, 0, 0), (27, .iaload, 1, 0, 0, 0), (28, .istore 4, 2, 0, 0, 0), (30, .iload 4, 2, 0, 0, 0), (32, .bipush 7, 2, 0, 0, 0), (34, .iand, 1, 0, 0, 0), (35, .istore 5, 2, 0, 0, 0), (37, .iload_n 3, 1, 0, 0, 0), (38, .ifCond .ne 6, 3, 44, 0, 0), (41, .iload 5, 2, 0, 0, 0), (43, .ireturn, 1, 0, 0, 0), (44, .iload 5, 2, 0, 0, 0), (46, .iconst 1, 1, 0, 0, 0), (47, .if_icmp .eq 5, 3, 52, 0, 0), (50, .iconst (-1), 1, 0, 0, 0), (51, .ireturn, 1, 0, 0, 0), (52, .iload_n 3, 1, 0, 0, 0), (53, .tableswitch 52 1 3 #[27, 34, 41], 27, 0, 0, 0), (80, .iload 4, 2, 0, 0, 0), (82, .iconst 3, 1, 0, 0, 0), (83, .ishr, 1, 0, 0, 0), (84, .iconst 3, 1, 0, 0, 0), (85, .iand, 1, 0, 0, 0), (86, .ireturn, 1, 0, 0, 0), (87, .iload 4, 2, 0, 0, 0), (89, .iconst 5, 1, 0, 0, 0), (90, .ishr, 1, 0, 0, 0), (91, .iconst 3, 1, 0, 0, 0), (92, .iand, 1, 0, 0, 0), (93, .ireturn, 1, 0, 0, 0), (94, .iload 4, 2, 0, 0, 0), (96, .bipush 7, 2, 0, 0, 0), (98, .ishr, 1, 0, 0, 0), (99, .bipush 15, 2, 0, 0, 0), (101, .iand, 1, 0, 0, 0), (102, .iconst 1, 1, 0, 0, 0), (103, .isub, 1, 0, 0, 0), (104, .ireturn, 1, 0, 0, 0), (105, .iconst (-1), 1, 0, 0, 0), (106, .ireturn, 1, 0, 0, 0)]
def cu_178 : List (Nat × List Nat) := [(4, [0, 1, 2, 3]), (12, [0, 1, 2, 3]), (15, [])]
noncomputable def G_178 : tm_G := fun id as M => if id = 114 then F_114 as M else if id = 173 then F_173 as M else none
noncomputable def F_178 : List Value → tm_M → Option tm_R := tm_m tm_sh none G_178 false cd_178 cu_178 56 6
theorem gg_178 : tm_Gg G_178 := by
  intro id as M r h
  unfold G_178 at h
  rcases tm_ite_e h with ⟨_, h⟩ | ⟨_, h⟩
  · exact gr_114 h
  rcases tm_ite_e h with ⟨_, h⟩ | ⟨_, h⟩
  · exact gr_173 h
  cases h
theorem gm_178 (l : Launch) : ∀ id as M r, G_178 id as M = some r → tm_MA tm_sh l (tm_mt id) as M r := by
  intro id as M r h
  unfold G_178 at h
  rcases tm_ite_e h with ⟨rfl, h⟩ | ⟨_, h⟩
  · exact con_114 l h
  rcases tm_ite_e h with ⟨rfl, h⟩ | ⟨_, h⟩
  · exact con_173 l h
  cases h
theorem gr_178 {as : List Value} {M : tm_M} {r : tm_R} (h : F_178 as M = some r) : tm_gr M r.2 := tm_m_gr gg_178 h
theorem ck_178 : tm_cdk (tm_mt 178).1.cls false tm_mt (tm_mt 178) false cd_178 := tm_cdk_of (LK := lk_RX4) (ix := [35, 34, 21]) lc_RX4 (by decide +kernel)
theorem con_178 (l : Launch) {as : List Value} {M : tm_M} {r : tm_R} (h : F_178 as M = some r) : tm_MA tm_sh l (tm_mt 178) as M r := tm_sound (t := tm_mt 178) tm_Sok_ok tm_CL_ok gg_178 (gm_178 l) (fun _ _ => ⟨rfl, rfl⟩) ck_178 (by decide +kernel) (fun h => by cases h) (fun _ _ _ _ => tm_nos_all (by decide +kernel)) h
def cd_179 : List tm_E := [(0, .aload_n 0, 1, 0, 0, 0), (1, .getfield 23, 3, 10, 2, 2), (4, .getfield 101, 3, 9, 0, 2), (7, .iload_n 1, 1, 0, 0, 0), (8, .iload_n 2, 1, 0, 0, 0), (9, .iload_n 3, 1, 0, 0, 0), (10, .invokevirtual 172, 3, 178, 3, 17), (13, .ireturn, 1, 0, 0, 0)]
def cu_179 : List (Nat × List Nat) := [(13, [])]
noncomputable def G_179 : tm_G := fun id as M => if id = 178 then F_178 as M else none
noncomputable def F_179 : List Value → tm_M → Option tm_R := tm_m tm_sh none G_179 false cd_179 cu_179 9 4
theorem gg_179 : tm_Gg G_179 := by
  intro id as M r h
  unfold G_179 at h
  rcases tm_ite_e h with ⟨_, h⟩ | ⟨_, h⟩
  · exact gr_178 h
  cases h
theorem gm_179 (l : Launch) : ∀ id as M r, G_179 id as M = some r → tm_MA tm_sh l (tm_mt id) as M r := by
  intro id as M r h
  unfold G_179 at h
  rcases tm_ite_e h with ⟨rfl, h⟩ | ⟨_, h⟩
  · exact con_178 l h
  cases h
theorem gr_179 {as : List Value} {M : tm_M} {r : tm_R} (h : F_179 as M = some r) : tm_gr M r.2 := tm_m_gr gg_179 h
theorem ck_179 : tm_cdk (tm_mt 179).1.cls false tm_mt (tm_mt 179) false cd_179 := tm_cdk_of (LK := lk_RX10) (ix := [41, 42, 69]) lc_RX10 (by decide +kernel)
theorem con_179 (l : Launch) {as : List Value} {M : tm_M} {r : tm_R} (h : F_179 as M = some r) : tm_MA tm_sh l (tm_mt 179) as M r := tm_sound (t := tm_mt 179) tm_Sok_ok tm_CL_ok gg_179 (gm_179 l) (fun _ _ => ⟨rfl, rfl⟩) ck_179 (by decide +kernel) (fun h => by cases h) (fun _ _ _ _ => tm_nos_all (by decide +kernel)) h
def cd_180 : List tm_E := [(0, .iload_n 0, 1, 0, 0, 0), (1, .ifCond .lt 13, 3, 14, 0, 0), (4, .iload_n 0, 1, 0, 0, 0), (5, .bipush 6, 2, 0, 0, 0), (7, .if_icmp .ge 7, 3, 14, 0, 0), (10, .iconst 1, 1, 0, 0, 0), (11, .goto 4, 3, 15, 0, 0), (14, .iconst 0, 1, 0, 0, 0), (15, .ireturn, 1, 0, 0, 0)]
def cu_180 : List (Nat × List Nat) := [(14, []), (15, [])]
def G_180 : tm_G := fun _ _ _ => none
noncomputable def F_180 : List Value → tm_M → Option tm_R := tm_m tm_sh none G_180 true cd_180 cu_180 10 1
theorem gg_180 : tm_Gg G_180 := fun _ _ _ _ h => by cases h
theorem gm_180 (l : Launch) : ∀ id as M r, G_180 id as M = some r → tm_MA tm_sh l (tm_mt id) as M r := fun _ _ _ _ h => by cases h
theorem gr_180 {as : List Value} {M : tm_M} {r : tm_R} (h : F_180 as M = some r) : tm_gr M r.2 := tm_m_gr gg_180 h
theorem ck_180 : tm_cdk (tm_mt 180).1.cls false tm_mt (tm_mt 180) true cd_180 := tm_cdk_of (LK := lk_RX11) (ix := []) lc_RX11 (by decide +kernel)
theorem con_180 (l : Launch) {as : List Value} {M : tm_M} {r : tm_R} (h : F_180 as M = some r) : tm_MA tm_sh l (tm_mt 180) as M r := tm_sound (t := tm_mt 180) tm_Sok_ok tm_CL_ok gg_180 (gm_180 l) (fun _ _ => ⟨rfl, rfl⟩) ck_180 (by decide +kernel) (fun h => by cases h) (fun _ _ _ _ => tm_nos_all (by decide +kernel)) h
def cd_181 : List tm_E := [(0, .iload_n 1, 1, 0, 0, 0), (1, .invokestatic 464, 3, 180, 1, 1), (4, .ifCond .eq 11, 3, 15, 0, 0), (7, .aload_n 0, 1, 0, 0, 0), (8, .iload_n 2, 1, 0, 0, 0), (9, .invokevirtual 461, 3, 176, 1, 45), (12, .ifCond .ne 5, 3, 17, 0, 0), (15, .iconst (-1), 1, 0, 0, 0), (16, .ireturn, 1, 0, 0, 0), (17, .sipush 200, 3, 0, 0, 0), (20, .iload_n 1, 1, 0, 0, 0), (21, .imul, 1, 0, 0, 0), (22, .iload_n 2, 1, 0, 0, 0), (23, .iadd, 1, 0, 0, 0), (24, .istore 4, 2, 0, 0, 0), (26, .iload_n 3, 1, 0, 0, 0), (27, .ifCond .ne 13, 3, 40, 0, 0), (30, .aload_n 0, 1, 0, 0, 0), (31, .getfield 107, 3, 11, 45, 2), (34, .iload 4, 2, 0, 0, 0), (36, .iaload, 1, 0, 0, 0), (37, .goto 49, 3, 86, 0, 0), (40, .iload_n 3, 1, 0, 0, 0), (41, .iconst 1, 1, 0, 0, 0), (42, .if_icmp .ne 13, 3, 55, 0, 0), (45, .aload_n 0, 1, 0, 0, 0), (46, .getfield 110, 3, 11, 46, 2), (49, .iload 4, 2, 0, 0, 0), (51, .iaload, 1, 0, 0, 0), (52, .goto 34, 3, 86, 0, 0), (55, .iload_n 3, 1, 0, 0, 0), (56, .iconst 2, 1, 0, 0, 0), (57, .if_icmp .ne 13, 3, 70, 0, 0), (60, .aload_n 0, 1, 0, 0, 0), (61, .getfield 113, 3, 11, 47, 2), (64, .iload 4, 2, 0, 0, 0), (66, .iaload, 1, 0, 0, 0), (67, .goto 19, 3, 86, 0, 0), (70, .iload_n 3, 1, 0, 0, 0), (71, .iconst 3, 1, 0, 0, 0), (72, .if_icmp .ne 13, 3, 85, 0, 0), (75, .aload_n 0, 1, 0, 0, 0), (76, .getfield 116, 3, 11, 48, 2), (79, .iload 4, 2, 0, 0, 0), (81, .iaload, 1, 0, 0, 0), (82, .goto 4, 3, 86, 0, 0), (85, .iconst (-1), 1, 0, 0, 0), (86, .ireturn, 1, 0, 0, 0)]
def cu_181 : List (Nat × List Nat) := [(4, [0, 1, 2, 3]), (12, [0, 1, 2, 3]), (15, []), (86, [])]
noncomputable def G_181 : tm_G := fun id as M => if id = 180 then F_180 as M else if id = 176 then F_176 as M else none
noncomputable def F_181 : List Value → tm_M → Option tm_R := tm_m tm_sh none G_181 false cd_181 cu_181 49 5
theorem gg_181 : tm_Gg G_181 := by
  intro id as M r h
  unfold G_181 at h
  rcases tm_ite_e h with ⟨_, h⟩ | ⟨_, h⟩
  · exact gr_180 h
  rcases tm_ite_e h with ⟨_, h⟩ | ⟨_, h⟩
  · exact gr_176 h
  cases h
theorem gm_181 (l : Launch) : ∀ id as M r, G_181 id as M = some r → tm_MA tm_sh l (tm_mt id) as M r := by
  intro id as M r h
  unfold G_181 at h
  rcases tm_ite_e h with ⟨rfl, h⟩ | ⟨_, h⟩
  · exact con_180 l h
  rcases tm_ite_e h with ⟨rfl, h⟩ | ⟨_, h⟩
  · exact con_176 l h
  cases h
theorem gr_181 {as : List Value} {M : tm_M} {r : tm_R} (h : F_181 as M = some r) : tm_gr M r.2 := tm_m_gr gg_181 h
theorem ck_181 : tm_cdk (tm_mt 181).1.cls false tm_mt (tm_mt 181) false cd_181 := tm_cdk_of (LK := lk_RX11) (ix := [227, 226, 209, 210, 211, 212]) lc_RX11 (by decide +kernel)
theorem con_181 (l : Launch) {as : List Value} {M : tm_M} {r : tm_R} (h : F_181 as M = some r) : tm_MA tm_sh l (tm_mt 181) as M r := tm_sound (t := tm_mt 181) tm_Sok_ok tm_CL_ok gg_181 (gm_181 l) (fun _ _ => ⟨rfl, rfl⟩) ck_181 (by decide +kernel) (fun h => by cases h) (fun _ _ _ _ => tm_nos_all (by decide +kernel)) h
def cd_182 : List tm_E := [(0, .iload_n 1, 1, 0, 0, 0), (1, .invokestatic 91, 3, 114, 1, 1), (4, .ifCond .eq 17, 3, 21, 0, 0), (7, .iload_n 2, 1, 0, 0, 0), (8, .ifCond .lt 13, 3, 21, 0, 0), (11, .aload_n 0, 1, 0, 0, 0), (12, .iload_n 2, 1, 0, 0, 0), (13, .iconst 4, 1, 0, 0, 0), (14, .idiv, 1, 0, 0, 0), (15, .invokevirtual 87, 3, 173, 1, 17), (18, .ifCond .ne 5, 3, 23, 0, 0), (21, .iconst (-1), 1, 0, 0, 0), (22, .ireturn, 1, 0, 0, 0), (23, .aload_n 0, 1, 0, 0, 0), (24, .getfield 21, 3, 4, 3, 2), (27, .iload_n 2, 1, 0, 0, 0), (28, .iconst 4, 1, 0, 0, 0), (29, .idiv, 1, 0, 0, 0), (30, .bipush 6, 2, 0, 0, 0), (32, .imul, 1, 0, 0, 0), (33, .iload_n 1, 1, 0, 0, 0), (34, .iadd, 1, 0, 0, 0), (35, .iaload, 1, 0, 0, 0), (36, .istore_n 3, 1, 0, 0, 0), (37, .iload_n 3, 1, 0, 0, 0), (38, .bipush 7, 2, 0, 0, 0), (40, .iand, 1, 0, 0, 0), (41, .iconst 1, 1, 0, 0, 0), (42, .if_icmp .ne 18, 3, 60, 0, 0), (45, .iload_n 3, 1, 0, 0, 0), (46, .bipush 11, 2, 0, 0, 0), (48, .iconst 2, 1, 0, 0, 0), (49, .iload_n 2, 1, 0, 0, 0), (50, .iconst 4, 1, 0, 0, 0), (51, .irem, 1, 0, 0, 0), (52, .imul, 1, 0, 0, 0), (53, .iadd, 1, 0, 0, 0), (54, .ishr, 1, 0, 0, 0), (55, .iconst 3, 1, 0, 0, 0), (56, .iand, 1, 0, 0, 0), (57, .goto 4, 3, 61, 0, 0), (60, .iconst (-1), 1, 0, 0, 0), (61, .ireturn, 1, 0, 0, 0)]
def cu_182 : List (Nat × List Nat) := [(4, [0, 1, 2]), (18, [0, 1, 2]), (21, []), (61, [])]
noncomputable def G_182 : tm_G := fun id as M => if id = 114 then F_114 as M else if id = 173 then F_173 as M else none
noncomputable def F_182 : List Value → tm_M → Option tm_R := tm_m tm_sh none G_182 false cd_182 cu_182 44 4
theorem gg_182 : tm_Gg G_182 := by
  intro id as M r h
  unfold G_182 at h
  rcases tm_ite_e h with ⟨_, h⟩ | ⟨_, h⟩
  · exact gr_114 h
  rcases tm_ite_e h with ⟨_, h⟩ | ⟨_, h⟩
  · exact gr_173 h
  cases h
theorem gm_182 (l : Launch) : ∀ id as M r, G_182 id as M = some r → tm_MA tm_sh l (tm_mt id) as M r := by
  intro id as M r h
  unfold G_182 at h
  rcases tm_ite_e h with ⟨rfl, h⟩ | ⟨_, h⟩
  · exact con_114 l h
  rcases tm_ite_e h with ⟨rfl, h⟩ | ⟨_, h⟩
  · exact con_173 l h
  cases h
theorem gr_182 {as : List Value} {M : tm_M} {r : tm_R} (h : F_182 as M = some r) : tm_gr M r.2 := tm_m_gr gg_182 h
theorem ck_182 : tm_cdk (tm_mt 182).1.cls false tm_mt (tm_mt 182) false cd_182 := tm_cdk_of (LK := lk_RX4) (ix := [35, 34, 21]) lc_RX4 (by decide +kernel)
theorem con_182 (l : Launch) {as : List Value} {M : tm_M} {r : tm_R} (h : F_182 as M = some r) : tm_MA tm_sh l (tm_mt 182) as M r := tm_sound (t := tm_mt 182) tm_Sok_ok tm_CL_ok gg_182 (gm_182 l) (fun _ _ => ⟨rfl, rfl⟩) ck_182 (by decide +kernel) (fun h => by cases h) (fun _ _ _ _ => tm_nos_all (by decide +kernel)) h
def cd_183 : List tm_E := [(0, .aload_n 0, 1, 0, 0, 0), (1, .getfield 23, 3, 10, 2, 2), (4, .getfield 101, 3, 9, 0, 2), (7, .iload_n 1, 1, 0, 0, 0), (8, .iload_n 2, 1, 0, 0, 0), (9, .invokevirtual 176, 3, 182, 2, 17), (12, .ireturn, 1, 0, 0, 0)]
def cu_183 : List (Nat × List Nat) := [(12, [])]
noncomputable def G_183 : tm_G := fun id as M => if id = 182 then F_182 as M else none
noncomputable def F_183 : List Value → tm_M → Option tm_R := tm_m tm_sh none G_183 false cd_183 cu_183 8 3
theorem gg_183 : tm_Gg G_183 := by
  intro id as M r h
  unfold G_183 at h
  rcases tm_ite_e h with ⟨_, h⟩ | ⟨_, h⟩
  · exact gr_182 h
  cases h
theorem gm_183 (l : Launch) : ∀ id as M r, G_183 id as M = some r → tm_MA tm_sh l (tm_mt id) as M r := by
  intro id as M r h
  unfold G_183 at h
  rcases tm_ite_e h with ⟨rfl, h⟩ | ⟨_, h⟩
  · exact con_182 l h
  cases h
theorem gr_183 {as : List Value} {M : tm_M} {r : tm_R} (h : F_183 as M = some r) : tm_gr M r.2 := tm_m_gr gg_183 h
theorem ck_183 : tm_cdk (tm_mt 183).1.cls false tm_mt (tm_mt 183) false cd_183 := tm_cdk_of (LK := lk_RX10) (ix := [41, 42, 70]) lc_RX10 (by decide +kernel)
theorem con_183 (l : Launch) {as : List Value} {M : tm_M} {r : tm_R} (h : F_183 as M = some r) : tm_MA tm_sh l (tm_mt 183) as M r := tm_sound (t := tm_mt 183) tm_Sok_ok tm_CL_ok gg_183 (gm_183 l) (fun _ _ => ⟨rfl, rfl⟩) ck_183 (by decide +kernel) (fun h => by cases h) (fun _ _ _ _ => tm_nos_all (by decide +kernel)) h
def cd_184 : List tm_E := [(0, .iload_n 1, 1, 0, 0, 0), (1, .invokestatic 464, 3, 180, 1, 1), (4, .ifCond .eq 17, 3, 21, 0, 0), (7, .iload_n 2, 1, 0, 0, 0), (8, .ifCond .lt 13, 3, 21, 0, 0), (11, .aload_n 0, 1, 0, 0, 0), (12, .iload_n 2, 1, 0, 0, 0), (13, .iconst 4, 1, 0, 0, 0), (14, .idiv, 1, 0, 0, 0), (15, .invokevirtual 461, 3, 176, 1, 45), (18, .ifCond .ne 7, 3, 25, 0, 0), (21, .iconst (-1), 1, 0, 0, 0), (22, .goto 15, 3, 37, 0, 0), (25, .aload_n 0, 1, 0, 0, 0), (26, .getfield 119, 3, 11, 49, 2), (29, .sipush 800, 3, 0, 0, 0), (32, .iload_n 1, 1, 0, 0, 0), (33, .imul, 1, 0, 0, 0), (34, .iload_n 2, 1, 0, 0, 0), (35, .iadd, 1, 0, 0, 0), (36, .iaload, 1, 0, 0, 0), (37, .ireturn, 1, 0, 0, 0)]
def cu_184 : List (Nat × List Nat) := [(4, [0, 1, 2]), (18, [0, 1, 2]), (21, []), (37, [])]
noncomputable def G_184 : tm_G := fun id as M => if id = 180 then F_180 as M else if id = 176 then F_176 as M else none
noncomputable def F_184 : List Value → tm_M → Option tm_R := tm_m tm_sh none G_184 false cd_184 cu_184 23 3
theorem gg_184 : tm_Gg G_184 := by
  intro id as M r h
  unfold G_184 at h
  rcases tm_ite_e h with ⟨_, h⟩ | ⟨_, h⟩
  · exact gr_180 h
  rcases tm_ite_e h with ⟨_, h⟩ | ⟨_, h⟩
  · exact gr_176 h
  cases h
theorem gm_184 (l : Launch) : ∀ id as M r, G_184 id as M = some r → tm_MA tm_sh l (tm_mt id) as M r := by
  intro id as M r h
  unfold G_184 at h
  rcases tm_ite_e h with ⟨rfl, h⟩ | ⟨_, h⟩
  · exact con_180 l h
  rcases tm_ite_e h with ⟨rfl, h⟩ | ⟨_, h⟩
  · exact con_176 l h
  cases h
theorem gr_184 {as : List Value} {M : tm_M} {r : tm_R} (h : F_184 as M = some r) : tm_gr M r.2 := tm_m_gr gg_184 h
theorem ck_184 : tm_cdk (tm_mt 184).1.cls false tm_mt (tm_mt 184) false cd_184 := tm_cdk_of (LK := lk_RX11) (ix := [227, 226, 169]) lc_RX11 (by decide +kernel)
theorem con_184 (l : Launch) {as : List Value} {M : tm_M} {r : tm_R} (h : F_184 as M = some r) : tm_MA tm_sh l (tm_mt 184) as M r := tm_sound (t := tm_mt 184) tm_Sok_ok tm_CL_ok gg_184 (gm_184 l) (fun _ _ => ⟨rfl, rfl⟩) ck_184 (by decide +kernel) (fun h => by cases h) (fun _ _ _ _ => tm_nos_all (by decide +kernel)) h
def cd_185 : List tm_E := [(0, .iload_n 0, 1, 0, 0, 0), (1, .ifCond .lt 32, 3, 33, 0, 0), (4, .iload_n 0, 1, 0, 0, 0), (5, .sipush 200, 3, 0, 0, 0), (8, .if_icmp .gt 25, 3, 33, 0, 0), (11, .iload_n 1, 1, 0, 0, 0), (12, .ifCond .lt 21, 3, 33, 0, 0), (15, .iload_n 1, 1, 0, 0, 0), (16, .iconst 3, 1, 0, 0, 0), (17, .if_icmp .gt 16, 3, 33, 0, 0), (20, .iload_n 2, 1, 0, 0, 0), (21, .ifCond .lt 12, 3, 33, 0, 0), (24, .iload_n 2, 1, 0, 0, 0), (25, .iconst 3, 1, 0, 0, 0), (26, .if_icmp .gt 7, 3, 33, 0, 0), (29, .iconst 1, 1, 0, 0, 0), (30, .goto 4, 3, 34, 0, 0), (33, .iconst 0, 1, 0, 0, 0), (34, .ireturn, 1, 0, 0, 0)]
def cu_185 : List (Nat × List Nat) := [(33, []), (34, [])]
def G_185 : tm_G := fun _ _ _ => none
noncomputable def F_185 : List Value → tm_M → Option tm_R := tm_m tm_sh none G_185 true cd_185 cu_185 20 3
theorem gg_185 : tm_Gg G_185 := fun _ _ _ _ h => by cases h
theorem gm_185 (l : Launch) : ∀ id as M r, G_185 id as M = some r → tm_MA tm_sh l (tm_mt id) as M r := fun _ _ _ _ h => by cases h
theorem gr_185 {as : List Value} {M : tm_M} {r : tm_R} (h : F_185 as M = some r) : tm_gr M r.2 := tm_m_gr gg_185 h
theorem ck_185 : tm_cdk (tm_mt 185).1.cls false tm_mt (tm_mt 185) true cd_185 := tm_cdk_of (LK := lk_RX10) (ix := []) lc_RX10 (by decide +kernel)
theorem con_185 (l : Launch) {as : List Value} {M : tm_M} {r : tm_R} (h : F_185 as M = some r) : tm_MA tm_sh l (tm_mt 185) as M r := tm_sound (t := tm_mt 185) tm_Sok_ok tm_CL_ok gg_185 (gm_185 l) (fun _ _ => ⟨rfl, rfl⟩) ck_185 (by decide +kernel) (fun h => by cases h) (fun _ _ _ _ => tm_nos_all (by decide +kernel)) h
def cd_186 : List tm_E := [(0, .iload_n 2, 1, 0, 0, 0), (1, .ifCond .lt 12, 3, 13, 0, 0), (4, .iload_n 2, 1, 0, 0, 0), (5, .aload_n 0, 1, 0, 0, 0), (6, .getfield 24, 3, 1, 3, 2), (9, .arraylength, 1, 0, 0, 0), (10, .if_icmp .lt 4, 3, 14, 0, 0), (13, .return_, 1, 0, 0, 0), (14, .aload_n 0, 1, 0, 0, 0), (15, .getfield 24, 3, 1, 3, 2), (18, .iload_n 2, 1, 0, 0, 0), (19, .iconst 0, 1, 0, 0, 0), (20, .iastore, 1, 0, 0, 0), (21, .aload_n 0, 1, 0, 0, 0), (22, .getfield 27, 3, 1, 4, 2), (25, .iload_n 2, 1, 0, 0, 0), (26, .aload_n 1, 1, 0, 0, 0), (27, .iload_n 3, 1, 0, 0, 0), (28, .invokevirtual 115, 3, 89, 1, 33), (31, .iastore, 1, 0, 0, 0), (32, .aload_n 0, 1, 0, 0, 0), (33, .getfield 30, 3, 1, 5, 2), (36, .iload_n 2, 1, 0, 0, 0), (37, .aload_n 1, 1, 0, 0, 0), (38, .iload_n 3, 1, 0, 0, 0), (39, .invokevirtual 119, 3, 85, 1, 33), (42, .iastore, 1, 0, 0, 0), (43, .aload_n 1, 1, 0, 0, 0), (44, .invokevirtual 122, 3, 103, 0, 33), (47, .iconst (-1), 1, 0, 0, 0), (48, .if_icmp .eq 4, 3, 52, 0, 0), (51, .return_, 1, 0, 0, 0), (52, .iconst 0, 1, 0, 0, 0), (53, .istore 4, 2, 0, 0, 0), (55, .iload 4, 2, 0, 0, 0), (57, .bipush 16, 2, 0, 0, 0), (59, .if_icmp .ge 38, 3, 97, 0, 0), (62, .aload_n 1, 1, 0, 0, 0), (63, .iload 4, 2, 0, 0, 0), (65, .iconst 4, 1, 0, 0, 0), (66, .idiv, 1, 0, 0, 0), (67, .iload 4, 2, 0, 0, 0), (69, .iconst 4, 1, 0, 0, 0), (70, .irem, 1, 0, 0, 0), (71, .iload_n 3, 1, 0, 0, 0), (72, .invokevirtual 126, 3, 121, 3, 33), (75, .ifCond .eq 16, 3, 91, 0, 0), (78, .aload_n 0, 1, 0, 0, 0), (79, .getfield 24, 3, 1, 3, 2), (82, .iload_n 2, 1, 0, 0, 0), (83, .dup2, 1, 0, 0, 0), (84, .iaload, 1, 0, 0, 0), (85, .iconst 1, 1, 0, 0, 0), (86, .iload 4, 2, 0, 0, 0), (88, .ishl, 1, 0, 0, 0), (89, .ior, 1, 0, 0, 0), (90, .iastore, 1, 0, 0, 0), (91, .iinc 4 1, 3, 0, 0, 0), (94, .goto (-39), 3, 55, 0, 0), (97, .return_, 1, 0, 0, 0)]
def cu_186 : List (Nat × List Nat) := [(13, []), (31, [0, 1, 2, 3]), (42, [0, 1, 2, 3]), (47, [0, 1, 2, 3]), (55, [0, 1, 2, 3, 4]), (75, [0, 1, 2, 3, 4]), (91, [0, 1, 2, 3, 4])]
noncomputable def G_186 : tm_G := fun id as M => if id = 89 then F_89 as M else if id = 85 then F_85 as M else if id = 103 then F_103 as M else if id = 121 then F_121 as M else none
noncomputable def F_186 : List Value → tm_M → Option tm_R := tm_m tm_sh none G_186 false cd_186 cu_186 61 5
theorem gg_186 : tm_Gg G_186 := by
  intro id as M r h
  unfold G_186 at h
  rcases tm_ite_e h with ⟨_, h⟩ | ⟨_, h⟩
  · exact gr_89 h
  rcases tm_ite_e h with ⟨_, h⟩ | ⟨_, h⟩
  · exact gr_85 h
  rcases tm_ite_e h with ⟨_, h⟩ | ⟨_, h⟩
  · exact gr_103 h
  rcases tm_ite_e h with ⟨_, h⟩ | ⟨_, h⟩
  · exact gr_121 h
  cases h
theorem gm_186 (l : Launch) : ∀ id as M r, G_186 id as M = some r → tm_MA tm_sh l (tm_mt id) as M r := by
  intro id as M r h
  unfold G_186 at h
  rcases tm_ite_e h with ⟨rfl, h⟩ | ⟨_, h⟩
  · exact con_89 l h
  rcases tm_ite_e h with ⟨rfl, h⟩ | ⟨_, h⟩
  · exact con_85 l h
  rcases tm_ite_e h with ⟨rfl, h⟩ | ⟨_, h⟩
  · exact con_103 l h
  rcases tm_ite_e h with ⟨rfl, h⟩ | ⟨_, h⟩
  · exact con_121 l h
  cases h
theorem gr_186 {as : List Value} {M : tm_M} {r : tm_R} (h : F_186 as M = some r) : tm_gr M r.2 := tm_m_gr gg_186 h
theorem ck_186 : tm_cdk (tm_mt 186).1.cls false tm_mt (tm_mt 186) false cd_186 := tm_cdk_of (LK := lk_RX1) (ix := [12, 12, 13, 14, 15, 16, 17, 18, 12]) lc_RX1 (by decide +kernel)
theorem con_186 (l : Launch) {as : List Value} {M : tm_M} {r : tm_R} (h : F_186 as M = some r) : tm_MA tm_sh l (tm_mt 186) as M r := tm_sound (t := tm_mt 186) tm_Sok_ok tm_CL_ok gg_186 (gm_186 l) (fun _ _ => ⟨rfl, rfl⟩) ck_186 (by decide +kernel) (fun h => by cases h) (fun _ _ _ _ => tm_nos_all (by decide +kernel)) h
def cd_187 : List tm_E := [(0, .iload_n 0, 1, 0, 0, 0), (1, .iconst (-1), 1, 0, 0, 0), (2, .ixor, 1, 0, 0, 0), (3, .iload_n 0, 1, 0, 0, 0), (4, .iconst 1, 1, 0, 0, 0), (5, .isub, 1, 0, 0, 0), (6, .iand, 1, 0, 0, 0), (7, .istore_n 0, 1, 0, 0, 0), (8, .iload_n 0, 1, 0, 0, 0), (9, .ifCond .gt 8, 3, 17, 0, 0), (12, .iload_n 0, 1, 0, 0, 0), (13, .bipush 32, 2, 0, 0, 0), (15, .iand, 1, 0, 0, 0), (16, .ireturn, 1, 0, 0, 0), (17, .iconst 1, 1, 0, 0, 0), (18, .istore_n 1, 1, 0, 0, 0), (19, .iload_n 0, 1, 0, 0, 0), (20, .ldc_w 264, 3, 0, 65536, 0), (23, .if_icmp .le 11, 3, 34, 0, 0), (26, .iinc 1 16, 3, 0, 0, 0), (29, .iload_n 0, 1, 0, 0, 0), (30, .bipush 16, 2, 0, 0, 0), (32, .iushr, 1, 0, 0, 0), (33, .istore_n 0, 1, 0, 0, 0), (34, .iload_n 0, 1, 0, 0, 0), (35, .sipush 256, 3, 0, 0, 0), (38, .if_icmp .le 11, 3, 49, 0, 0), (41, .iinc 1 8, 3, 0, 0, 0), (44, .iload_n 0, 1, 0, 0, 0), (45, .bipush 8, 2, 0, 0, 0), (47, .iushr, 1, 0, 0, 0), (48, .istore_n 0, 1, 0, 0, 0), (49, .iload_n 0, 1, 0, 0, 0), (50, .bipush 16, 2, 0, 0, 0), (52, .if_icmp .le 10, 3, 62, 0, 0), (55, .iinc 1 4, 3, 0, 0, 0), (58, .iload_n 0, 1, 0, 0, 0), (59, .iconst 4, 1, 0, 0, 0), (60, .iushr, 1, 0, 0, 0), (61, .istore_n 0, 1, 0, 0, 0), (62, .iload_n 0, 1, 0, 0, 0), (63, .iconst 4, 1, 0, 0, 0), (64, .if_icmp .le 10, 3, 74, 0, 0), (67, .iinc 1 2, 3, 0, 0, 0), (70, .iload_n 0, 1, 0, 0, 0), (71, .iconst 2, 1, 0, 0, 0), (72, .iushr, 1, 0, 0, 0), (73, .istore_n 0, 1, 0, 0, 0), (74, .iload_n 1, 1, 0, 0, 0), (75, .iload_n 0, 1, 0, 0, 0), (76, .iconst 1, 1, 0, 0, 0), (77, .iushr, 1, 0, 0, 0), (78, .iadd, 1, 0, 0, 0), (79, .ireturn, 1, 0, 0, 0)]
def cu_187 : List (Nat × List Nat) := [(34, [0, 1]), (49, [0, 1]), (62, [0, 1]), (74, [0, 1])]
def G_187 : tm_G := fun _ _ _ => none
noncomputable def F_187 : List Value → tm_M → Option tm_R := tm_m tm_sh none G_187 false cd_187 cu_187 55 2
theorem gg_187 : tm_Gg G_187 := fun _ _ _ _ h => by cases h
theorem gm_187 (l : Launch) : ∀ id as M r, G_187 id as M = some r → tm_MA tm_sh l (tm_mt id) as M r := fun _ _ _ _ h => by cases h
theorem gr_187 {as : List Value} {M : tm_M} {r : tm_R} (h : F_187 as M = some r) : tm_gr M r.2 := tm_m_gr gg_187 h
theorem ck_187 : tm_cdk (tm_mt 187).1.cls false tm_mt (tm_mt 187) false cd_187 := tm_cdk_of (LK := lk_RJ6) (ix := [0]) lc_RJ6 (by decide +kernel)
theorem con_187 (l : Launch) {as : List Value} {M : tm_M} {r : tm_R} (h : F_187 as M = some r) : tm_MA tm_sh l (tm_mt 187) as M r := tm_sound (t := tm_mt 187) tm_Sok_ok tm_CL_ok gg_187 (gm_187 l) (fun _ _ => ⟨rfl, rfl⟩) ck_187 (by decide +kernel) (fun h => by cases h) (fun _ _ _ _ => tm_nos_all (by decide +kernel)) h
def cd_253 : List tm_E := [(0, .iconst 1, 1, 0, 0, 0), (1, .istore 4, 2, 0, 0, 0), (3, .iload 4, 2, 0, 0, 0), (5, .bipush 64, 2, 0, 0, 0), (7, .if_icmp .ge 109, 3, 116, 0, 0), (10, .iload_n 2, 1, 0, 0, 0), (11, .iload 4, 2, 0, 0, 0), (13, .invokestatic 97, 3, 187, 1, 1), (16, .iadd, 1, 0, 0, 0), (17, .istore 5, 2, 0, 0, 0), (19, .iload_n 3, 1, 0, 0, 0), (20, .iload 4, 2, 0, 0, 0), (22, .iload 4, 2, 0, 0, 0), (24, .iconst 1, 1, 0, 0, 0), (25, .isub, 1, 0, 0, 0), (26, .iand, 1, 0, 0, 0), (27, .iadd, 1, 0, 0, 0), (28, .istore 6, 2, 0, 0, 0), (30, .aload_n 1, 1, 0, 0, 0), (31, .iload 5, 2, 0, 0, 0), (33, .invokevirtual 103, 3, 84, 1, 1), (36, .istore 7, 2, 0, 0, 0), (38, .aload_n 0, 1, 0, 0, 0), (39, .getfield 15, 3, 1, 1, 2), (42, .iload_n 3, 1, 0, 0, 0), (43, .iload 4, 2, 0, 0, 0), (45, .iadd, 1, 0, 0, 0), (46, .aload_n 0, 1, 0, 0, 0), (47, .getfield 15, 3, 1, 1, 2), (50, .iload 6, 2, 0, 0, 0), (52, .iaload, 1, 0, 0, 0), (53, .iload 7, 2, 0, 0, 0), (55, .ifCond .eq 16, 3, 71, 0, 0), (58, .aload_n 1, 1, 0, 0, 0), (59, .getfield 73, 3, 0, 0, 2), (62, .iload 5, 2, 0, 0, 0), (64, .aaload, 1, 0, 0, 0), (65, .getfield 107, 3, 8, 3, 0), (68, .goto 4, 3, 72, 0, 0), (71, .iconst 0, 1, 0, 0, 0), (72, .iadd, 1, 0, 0, 0), (73, .iastore, 1, 0, 0, 0), (74, .aload_n 0, 1, 0, 0, 0), (75, .getfield 19, 3, 1, 2, 2), (78, .iload_n 3, 1, 0, 0, 0), (79, .iload 4, 2, 0, 0, 0), (81, .iadd, 1, 0, 0, 0), (82, .aload_n 0, 1, 0, 0, 0), (83, .getfield 19, 3, 1, 2, 2), (86, .iload 6, 2, 0, 0, 0), (88, .iaload, 1, 0, 0, 0), (89, .iload 7, 2, 0, 0, 0), (91, .ifCond .eq 16, 3, 107, 0, 0), (94, .aload_n 1, 1, 0, 0, 0), (95, .getfield 73, 3, 0, 0, 2), (98, .iload 5, 2, 0, 0, 0), (100, .aaload, 1, 0, 0, 0), (101, .getfield 112, 3, 8, 4, 0), (104, .goto 4, 3, 108, 0, 0), (107, .iconst 0, 1, 0, 0, 0), (108, .iadd, 1, 0, 0, 0), (109, .iastore, 1, 0, 0, 0), (110, .iinc 4 1, 3, 0, 0, 0), (113, .goto (-110), 3, 3, 0, 0), (116, .return_, 1, 0, 0, 0)]
def cu_253 : List (Nat × List Nat) := [(3, [0, 1, 2, 3, 4]), (16, [0, 1, 2, 3, 4]), (36, [0, 1, 2, 3, 4, 5, 6]), (72, [0, 1, 2, 3, 4, 5, 6, 7]), (108, [0, 1, 2, 3, 4])]
noncomputable def G_253 : tm_G := fun id as M => if id = 187 then F_187 as M else if id = 84 then F_84 as M else none
noncomputable def F_253 : List Value → tm_M → Option tm_R := tm_m tm_sh none G_253 false cd_253 cu_253 66 8
theorem gg_253 : tm_Gg G_253 := by
  intro id as M r h
  unfold G_253 at h
  rcases tm_ite_e h with ⟨_, h⟩ | ⟨_, h⟩
  · exact gr_187 h
  rcases tm_ite_e h with ⟨_, h⟩ | ⟨_, h⟩
  · exact gr_84 h
  cases h
theorem gm_253 (l : Launch) : ∀ id as M r, G_253 id as M = some r → tm_MA tm_sh l (tm_mt id) as M r := by
  intro id as M r h
  unfold G_253 at h
  rcases tm_ite_e h with ⟨rfl, h⟩ | ⟨_, h⟩
  · exact con_187 l h
  rcases tm_ite_e h with ⟨rfl, h⟩ | ⟨_, h⟩
  · exact con_84 l h
  cases h
theorem gr_253 {as : List Value} {M : tm_M} {r : tm_R} (h : F_253 as M = some r) : tm_gr M r.2 := tm_m_gr gg_253 h
theorem ck_253 : tm_cdk (tm_mt 253).1.cls false tm_mt (tm_mt 253) false cd_253 := tm_cdk_of (LK := lk_RX1) (ix := [19, 20, 21, 21, 22, 23, 24, 24, 22, 25]) lc_RX1 (by decide +kernel)
theorem con_253 (l : Launch) {as : List Value} {M : tm_M} {r : tm_R} (h : F_253 as M = some r) : tm_MA tm_sh l (tm_mt 253) as M r := tm_sound (t := tm_mt 253) tm_Sok_ok tm_CL_ok gg_253 (gm_253 l) (fun _ _ => ⟨rfl, rfl⟩) ck_253 (by decide +kernel) (fun h => by cases h) (fun _ _ _ _ => tm_nos_all (by decide +kernel)) h
def cd_254 : List tm_E := [(0, .iload_n 1, 1, 0, 0, 0), (1, .ifCond .lt 10, 3, 11, 0, 0), (4, .iload_n 1, 1, 0, 0, 0), (5, .sipush 4096, 3, 0, 0, 0), (8, .if_icmp .lt 4, 3, 12, 0, 0), (11, .return_, 1, 0, 0, 0), (12, .bipush 16, 2, 0, 0, 0), (14, .iload_n 1, 1, 0, 0, 0), (15, .iconst 4, 1, 0, 0, 0), (16, .irem, 1, 0, 0, 0), (17, .imul, 1, 0, 0, 0), (18, .istore_n 3, 1, 0, 0, 0), (19, .aload_n 0, 1, 0, 0, 0), (20, .getfield 11, 3, 1, 0, 2), (23, .iload_n 1, 1, 0, 0, 0), (24, .iconst 4, 1, 0, 0, 0), (25, .idiv, 1, 0, 0, 0), (26, .laload, 1, 0, 0, 0), (27, .ldc2_w 51, 3, 65535, 0, 0), (30, .iload_n 3, 1, 0, 0, 0), (31, .lshl, 1, 0, 0, 0), (32, .ldc2_w 53, 3, 18446744073709551615, 0, 0), (35, .lxor, 1, 0, 0, 0), (36, .land, 1, 0, 0, 0), (37, .lstore 4, 2, 0, 0, 0), (39, .aload_n 0, 1, 0, 0, 0), (40, .getfield 11, 3, 1, 0, 2), (43, .iload_n 1, 1, 0, 0, 0), (44, .iconst 4, 1, 0, 0, 0), (45, .idiv, 1, 0, 0, 0), (46, .lload 4, 2, 0, 0, 0), (48, .iload_n 2, 1, 0, 0, 0), (49, .i2l, 1, 0, 0, 0), (50, .iload_n 3, 1, 0, 0, 0), (51, .lshl, 1, 0, 0, 0), (52, .lor, 1, 0, 0, 0), (53, .lastore, 1, 0, 0, 0), (54, .return_, 1, 0, 0, 0)]
def cu_254 : List (Nat × List Nat) := [(11, [])]
def G_254 : tm_G := fun _ _ _ => none
noncomputable def F_254 : List Value → tm_M → Option tm_R := tm_m tm_sh none G_254 false cd_254 cu_254 39 6
theorem gg_254 : tm_Gg G_254 := fun _ _ _ _ h => by cases h
theorem gm_254 (l : Launch) : ∀ id as M r, G_254 id as M = some r → tm_MA tm_sh l (tm_mt id) as M r := fun _ _ _ _ h => by cases h
theorem gr_254 {as : List Value} {M : tm_M} {r : tm_R} (h : F_254 as M = some r) : tm_gr M r.2 := tm_m_gr gg_254 h
theorem ck_254 : tm_cdk (tm_mt 254).1.cls false tm_mt (tm_mt 254) false cd_254 := tm_cdk_of (LK := lk_RX1) (ix := [26, 27, 28, 26]) lc_RX1 (by decide +kernel)
theorem con_254 (l : Launch) {as : List Value} {M : tm_M} {r : tm_R} (h : F_254 as M = some r) : tm_MA tm_sh l (tm_mt 254) as M r := tm_sound (t := tm_mt 254) tm_Sok_ok tm_CL_ok gg_254 (gm_254 l) (fun _ _ => ⟨rfl, rfl⟩) ck_254 (by decide +kernel) (fun h => by cases h) (fun _ _ _ _ => tm_nos_all (by decide +kernel)) h
def cd_255 : List tm_E := [(0, .iload_n 1, 1, 0, 0, 0), (1, .ifCond .lt 10, 3, 11, 0, 0), (4, .iload_n 1, 1, 0, 0, 0), (5, .sipush 4096, 3, 0, 0, 0), (8, .if_icmp .lt 5, 3, 13, 0, 0), (11, .iconst 0, 1, 0, 0, 0), (12, .ireturn, 1, 0, 0, 0), (13, .aload_n 0, 1, 0, 0, 0), (14, .getfield 11, 3, 1, 0, 2), (17, .iload_n 1, 1, 0, 0, 0), (18, .iconst 4, 1, 0, 0, 0), (19, .idiv, 1, 0, 0, 0), (20, .laload, 1, 0, 0, 0), (21, .bipush 16, 2, 0, 0, 0), (23, .iload_n 1, 1, 0, 0, 0), (24, .iconst 4, 1, 0, 0, 0), (25, .irem, 1, 0, 0, 0), (26, .imul, 1, 0, 0, 0), (27, .lshr, 1, 0, 0, 0), (28, .l2i, 1, 0, 0, 0), (29, .ldc 50, 2, 0, 65535, 0), (31, .iand, 1, 0, 0, 0), (32, .ireturn, 1, 0, 0, 0)]
def cu_255 : List (Nat × List Nat) := [(11, [])]
def G_255 : tm_G := fun _ _ _ => none
noncomputable def F_255 : List Value → tm_M → Option tm_R := tm_m tm_sh none G_255 false cd_255 cu_255 24 2
theorem gg_255 : tm_Gg G_255 := fun _ _ _ _ h => by cases h
theorem gm_255 (l : Launch) : ∀ id as M r, G_255 id as M = some r → tm_MA tm_sh l (tm_mt id) as M r := fun _ _ _ _ h => by cases h
theorem gr_255 {as : List Value} {M : tm_M} {r : tm_R} (h : F_255 as M = some r) : tm_gr M r.2 := tm_m_gr gg_255 h
theorem ck_255 : tm_cdk (tm_mt 255).1.cls false tm_mt (tm_mt 255) false cd_255 := tm_cdk_of (LK := lk_RX1) (ix := [26, 29]) lc_RX1 (by decide +kernel)
theorem con_255 (l : Launch) {as : List Value} {M : tm_M} {r : tm_R} (h : F_255 as M = some r) : tm_MA tm_sh l (tm_mt 255) as M r := tm_sound (t := tm_mt 255) tm_Sok_ok tm_CL_ok gg_255 (gm_255 l) (fun _ _ => ⟨rfl, rfl⟩) ck_255 (by decide +kernel) (fun h => by cases h) (fun _ _ _ _ => tm_nos_all (by decide +kernel)) h
def cd_188 : List tm_E := [(0, .aload_n 0, 1, 0, 0, 0), (1, .getfield 30, 3, 1, 5, 2), (4, .iload_n 1, 1, 0, 0, 0), (5, .iaload, 1, 0, 0, 0), (6, .istore_n 3, 1, 0, 0, 0), (7, .sipush 4369, 3, 0, 0, 0), (10, .iconst 1, 1, 0, 0, 0), (11, .iconst 4, 1, 0, 0, 0), (12, .iload_n 3, 1, 0, 0, 0), (13, .isub, 1, 0, 0, 0), (14, .ishl, 1, 0, 0, 0), (15, .iconst 1, 1, 0, 0, 0), (16, .isub, 1, 0, 0, 0), (17, .imul, 1, 0, 0, 0), (18, .istore 4, 2, 0, 0, 0), (20, .iload_n 2, 1, 0, 0, 0), (21, .iload_n 3, 1, 0, 0, 0), (22, .ishr, 1, 0, 0, 0), (23, .iload 4, 2, 0, 0, 0), (25, .iand, 1, 0, 0, 0), (26, .iload_n 2, 1, 0, 0, 0), (27, .iconst 4, 1, 0, 0, 0), (28, .iload_n 3, 1, 0, 0, 0), (29, .isub, 1, 0, 0, 0), (30, .ishl, 1, 0, 0, 0), (31, .ldc 50, 2, 0, 65535, 0), (33, .iand, 1, 0, 0, 0), (34, .iload 4, 2, 0, 0, 0), (36, .iconst (-1), 1, 0, 0, 0), (37, .ixor, 1, 0, 0, 0), (38, .iand, 1, 0, 0, 0), (39, .ior, 1, 0, 0, 0), (40, .istore 5, 2, 0, 0, 0), (42, .aload_n 0, 1, 0, 0, 0), (43, .getfield 27, 3, 1, 4, 2), (46, .iload_n 1, 1, 0, 0, 0), (47, .iaload, 1, 0, 0, 0), (48, .ifCond .eq 23, 3, 71, 0, 0), (51, .sipush 4369, 3, 0, 0, 0), (54, .iload 5, 2, 0, 0, 0), (56, .iconst 4, 1, 0, 0, 0), (57, .aload_n 0, 1, 0, 0, 0), (58, .getfield 27, 3, 1, 4, 2), (61, .iload_n 1, 1, 0, 0, 0), (62, .iaload, 1, 0, 0, 0), (63, .imul, 1, 0, 0, 0), (64, .ishr, 1, 0, 0, 0), (65, .bipush 15, 2, 0, 0, 0), (67, .iand, 1, 0, 0, 0), (68, .imul, 1, 0, 0, 0), (69, .istore 5, 2, 0, 0, 0), (71, .iload 5, 2, 0, 0, 0), (73, .aload_n 0, 1, 0, 0, 0), (74, .getfield 24, 3, 1, 3, 2), (77, .iload_n 1, 1, 0, 0, 0), (78, .iaload, 1, 0, 0, 0), (79, .iand, 1, 0, 0, 0), (80, .ireturn, 1, 0, 0, 0)]
def cu_188 : List (Nat × List Nat) := [(71, [0, 1, 5])]
def G_188 : tm_G := fun _ _ _ => none
noncomputable def F_188 : List Value → tm_M → Option tm_R := tm_m tm_sh none G_188 false cd_188 cu_188 59 6
theorem gg_188 : tm_Gg G_188 := fun _ _ _ _ h => by cases h
theorem gm_188 (l : Launch) : ∀ id as M r, G_188 id as M = some r → tm_MA tm_sh l (tm_mt id) as M r := fun _ _ _ _ h => by cases h
theorem gr_188 {as : List Value} {M : tm_M} {r : tm_R} (h : F_188 as M = some r) : tm_gr M r.2 := tm_m_gr gg_188 h
theorem ck_188 : tm_cdk (tm_mt 188).1.cls false tm_mt (tm_mt 188) false cd_188 := tm_cdk_of (LK := lk_RX1) (ix := [15, 29, 13, 13, 12]) lc_RX1 (by decide +kernel)
theorem con_188 (l : Launch) {as : List Value} {M : tm_M} {r : tm_R} (h : F_188 as M = some r) : tm_MA tm_sh l (tm_mt 188) as M r := tm_sound (t := tm_mt 188) tm_Sok_ok tm_CL_ok gg_188 (gm_188 l) (fun _ _ => ⟨rfl, rfl⟩) ck_188 (by decide +kernel) (fun h => by cases h) (fun _ _ _ _ => tm_nos_all (by decide +kernel)) h
def cd_189 : List tm_E := [(0, .iconst 0, 1, 0, 0, 0), (1, .istore_n 3, 1, 0, 0, 0), (2, .iconst 0, 1, 0, 0, 0), (3, .istore 4, 2, 0, 0, 0), (5, .iload 4, 2, 0, 0, 0), (7, .iload_n 2, 1, 0, 0, 0), (8, .if_icmp .ge 71, 3, 79, 0, 0), (11, .iload 4, 2, 0, 0, 0), (13, .bipush 12, 2, 0, 0, 0), (15, .if_icmp .ge 64, 3, 79, 0, 0), (18, .iload_n 1, 1, 0, 0, 0), (19, .iload 4, 2, 0, 0, 0), (21, .ishr, 1, 0, 0, 0), (22, .iconst 1, 1, 0, 0, 0), (23, .iand, 1, 0, 0, 0), (24, .ifCond .ne 6, 3, 30, 0, 0), (27, .goto 46, 3, 73, 0, 0), (30, .aload_n 0, 1, 0, 0, 0), (31, .iload_n 1, 1, 0, 0, 0), (32, .iconst 1, 1, 0, 0, 0), (33, .iload 4, 2, 0, 0, 0), (35, .ishl, 1, 0, 0, 0), (36, .ixor, 1, 0, 0, 0), (37, .invokevirtual 130, 3, 255, 1, 5), (40, .istore 5, 2, 0, 0, 0), (42, .iload 5, 2, 0, 0, 0), (44, .ifCond .eq 29, 3, 73, 0, 0), (47, .iload_n 3, 1, 0, 0, 0), (48, .aload_n 0, 1, 0, 0, 0), (49, .iconst 2, 1, 0, 0, 0), (50, .iload 4, 2, 0, 0, 0), (52, .imul, 1, 0, 0, 0), (53, .iload 5, 2, 0, 0, 0), (55, .invokevirtual 133, 3, 188, 2, 5), (58, .aload_n 0, 1, 0, 0, 0), (59, .iconst 2, 1, 0, 0, 0), (60, .iload 4, 2, 0, 0, 0), (62, .imul, 1, 0, 0, 0), (63, .iconst 1, 1, 0, 0, 0), (64, .iadd, 1, 0, 0, 0), (65, .iload 5, 2, 0, 0, 0), (67, .invokevirtual 133, 3, 188, 2, 5), (70, .ior, 1, 0, 0, 0), (71, .ior, 1, 0, 0, 0), (72, .istore_n 3, 1, 0, 0, 0), (73, .iinc 4 1, 3, 0, 0, 0), (76, .goto (-71), 3, 5, 0, 0), (79, .iload_n 3, 1, 0, 0, 0), (80, .ireturn, 1, 0, 0, 0)]
def cu_189 : List (Nat × List Nat) := [(5, [0, 1, 2, 3, 4]), (40, [0, 1, 2, 3, 4]), (58, [0, 1, 2, 4, 5]), (70, [0, 1, 2, 4]), (73, [0, 1, 2, 3, 4]), (79, [3])]
noncomputable def G_189 : tm_G := fun id as M => if id = 255 then F_255 as M else if id = 188 then F_188 as M else none
noncomputable def F_189 : List Value → tm_M → Option tm_R := tm_m tm_sh none G_189 false cd_189 cu_189 50 6
theorem gg_189 : tm_Gg G_189 := by
  intro id as M r h
  unfold G_189 at h
  rcases tm_ite_e h with ⟨_, h⟩ | ⟨_, h⟩
  · exact gr_255 h
  rcases tm_ite_e h with ⟨_, h⟩ | ⟨_, h⟩
  · exact gr_188 h
  cases h
theorem gm_189 (l : Launch) : ∀ id as M r, G_189 id as M = some r → tm_MA tm_sh l (tm_mt id) as M r := by
  intro id as M r h
  unfold G_189 at h
  rcases tm_ite_e h with ⟨rfl, h⟩ | ⟨_, h⟩
  · exact con_255 l h
  rcases tm_ite_e h with ⟨rfl, h⟩ | ⟨_, h⟩
  · exact con_188 l h
  cases h
theorem gr_189 {as : List Value} {M : tm_M} {r : tm_R} (h : F_189 as M = some r) : tm_gr M r.2 := tm_m_gr gg_189 h
theorem ck_189 : tm_cdk (tm_mt 189).1.cls false tm_mt (tm_mt 189) false cd_189 := tm_cdk_of (LK := lk_RX1) (ix := [30, 31, 31]) lc_RX1 (by decide +kernel)
theorem con_189 (l : Launch) {as : List Value} {M : tm_M} {r : tm_R} (h : F_189 as M = some r) : tm_MA tm_sh l (tm_mt 189) as M r := tm_sound (t := tm_mt 189) tm_Sok_ok tm_CL_ok gg_189 (gm_189 l) (fun _ _ => ⟨rfl, rfl⟩) ck_189 (by decide +kernel) (fun h => by cases h) (fun _ _ _ _ => tm_nos_all (by decide +kernel)) h
def cd_190 : List tm_E := [(0, .iconst 0, 1, 0, 0, 0), (1, .istore_n 2, 1, 0, 0, 0), (2, .iload_n 2, 1, 0, 0, 0), (3, .aload_n 1, 1, 0, 0, 0), (4, .getfield 70, 3, 0, 1, 0), (7, .if_icmp .ge 45, 3, 52, 0, 0), (10, .iload_n 2, 1, 0, 0, 0), (11, .bipush 12, 2, 0, 0, 0), (13, .if_icmp .ge 39, 3, 52, 0, 0), (16, .aload_n 0, 1, 0, 0, 0), (17, .aload_n 1, 1, 0, 0, 0), (18, .getfield 73, 3, 0, 0, 2), (21, .iload_n 2, 1, 0, 0, 0), (22, .aaload, 1, 0, 0, 0), (23, .iconst 2, 1, 0, 0, 0), (24, .iload_n 2, 1, 0, 0, 0), (25, .imul, 1, 0, 0, 0), (26, .iconst 0, 1, 0, 0, 0), (27, .invokevirtual 77, 3, 186, 3, 4), (30, .aload_n 0, 1, 0, 0, 0), (31, .aload_n 1, 1, 0, 0, 0), (32, .getfield 73, 3, 0, 0, 2), (35, .iload_n 2, 1, 0, 0, 0), (36, .aaload, 1, 0, 0, 0), (37, .iconst 2, 1, 0, 0, 0), (38, .iload_n 2, 1, 0, 0, 0), (39, .imul, 1, 0, 0, 0), (40, .iconst 1, 1, 0, 0, 0), (41, .iadd, 1, 0, 0, 0), (42, .iconst 1, 1, 0, 0, 0), (43, .invokevirtual 77, 3, 186, 3, 4), (46, .iinc 2 1, 3, 0, 0, 0), (49, .goto (-47), 3, 2, 0, 0), (52, .aload_n 0, 1, 0, 0, 0), (53, .aload_n 1, 1, 0, 0, 0), (54, .iconst 0, 1, 0, 0, 0), (55, .iconst 0, 1, 0, 0, 0), (56, .invokevirtual 81, 3, 253, 3, 4), (59, .aload_n 0, 1, 0, 0, 0), (60, .aload_n 1, 1, 0, 0, 0), (61, .bipush 6, 2, 0, 0, 0), (63, .bipush 64, 2, 0, 0, 0), (65, .invokevirtual 81, 3, 253, 3, 4), (68, .aload_n 0, 1, 0, 0, 0), (69, .iconst 1, 1, 0, 0, 0), (70, .aload_n 1, 1, 0, 0, 0), (71, .getfield 70, 3, 0, 1, 0), (74, .ishl, 1, 0, 0, 0), (75, .sipush 4096, 3, 0, 0, 0), (78, .invokestatic 85, 3, 9004, 2, 1), (81, .putfield 40, 3, 1, 10, 0), (84, .aload_n 0, 1, 0, 0, 0), (85, .iconst 0, 1, 0, 0, 0), (86, .ldc 50, 2, 0, 65535, 0), (88, .invokevirtual 90, 3, 254, 2, 4), (91, .iconst 1, 1, 0, 0, 0), (92, .istore_n 2, 1, 0, 0, 0), (93, .iload_n 2, 1, 0, 0, 0), (94, .aload_n 0, 1, 0, 0, 0), (95, .getfield 40, 3, 1, 10, 0), (98, .if_icmp .ge 23, 3, 121, 0, 0), (101, .aload_n 0, 1, 0, 0, 0), (102, .iload_n 2, 1, 0, 0, 0), (103, .aload_n 0, 1, 0, 0, 0), (104, .iload_n 2, 1, 0, 0, 0), (105, .aload_n 1, 1, 0, 0, 0), (106, .getfield 70, 3, 0, 1, 0), (109, .invokevirtual 94, 3, 189, 2, 5), (112, .invokevirtual 90, 3, 254, 2, 4), (115, .iinc 2 1, 3, 0, 0, 0), (118, .goto (-25), 3, 93, 0, 0), (121, .return_, 1, 0, 0, 0)]
def cu_190 : List (Nat × List Nat) := [(2, [0, 1, 2]), (30, [0, 1, 2]), (46, [0, 1, 2]), (52, [0, 1]), (59, [0, 1]), (68, [0, 1]), (91, [0, 1]), (93, [0, 1, 2]), (112, [0, 1, 2]), (115, [0, 1, 2])]
noncomputable def G_190 : tm_G := fun id as M => if id = 186 then F_186 as M else if id = 253 then F_253 as M else if id = 254 then F_254 as M else if id = 189 then F_189 as M else none
noncomputable def F_190 : List Value → tm_M → Option tm_R := tm_m tm_sh none G_190 false cd_190 cu_190 73 3
theorem gg_190 : tm_Gg G_190 := by
  intro id as M r h
  unfold G_190 at h
  rcases tm_ite_e h with ⟨_, h⟩ | ⟨_, h⟩
  · exact gr_186 h
  rcases tm_ite_e h with ⟨_, h⟩ | ⟨_, h⟩
  · exact gr_253 h
  rcases tm_ite_e h with ⟨_, h⟩ | ⟨_, h⟩
  · exact gr_254 h
  rcases tm_ite_e h with ⟨_, h⟩ | ⟨_, h⟩
  · exact gr_189 h
  cases h
theorem gm_190 (l : Launch) : ∀ id as M r, G_190 id as M = some r → tm_MA tm_sh l (tm_mt id) as M r := by
  intro id as M r h
  unfold G_190 at h
  rcases tm_ite_e h with ⟨rfl, h⟩ | ⟨_, h⟩
  · exact con_186 l h
  rcases tm_ite_e h with ⟨rfl, h⟩ | ⟨_, h⟩
  · exact con_253 l h
  rcases tm_ite_e h with ⟨rfl, h⟩ | ⟨_, h⟩
  · exact con_254 l h
  rcases tm_ite_e h with ⟨rfl, h⟩ | ⟨_, h⟩
  · exact con_189 l h
  cases h
theorem gr_190 {as : List Value} {M : tm_M} {r : tm_R} (h : F_190 as M = some r) : tm_gr M r.2 := tm_m_gr gg_190 h
theorem ck_190 : tm_cdk (tm_mt 190).1.cls false tm_mt (tm_mt 190) false cd_190 := tm_cdk_of (LK := lk_RX1) (ix := [32, 22, 33, 22, 33, 34, 34, 32, 35, 11, 29, 36, 37, 32, 38, 36]) lc_RX1 (by decide +kernel)
theorem con_190 (l : Launch) {as : List Value} {M : tm_M} {r : tm_R} (h : F_190 as M = some r) : tm_MA tm_sh l (tm_mt 190) as M r := tm_sound (t := tm_mt 190) tm_Sok_ok tm_CL_ok gg_190 (gm_190 l) (fun _ _ => ⟨rfl, rfl⟩) ck_190 (by decide +kernel) (fun h => by cases h) (fun _ _ _ _ => tm_nos_all (by decide +kernel)) h
def cd_256 : List tm_E := [(0, .iload_n 1, 1, 0, 0, 0), (1, .ifCond .lt 18, 3, 19, 0, 0), (4, .iload_n 1, 1, 0, 0, 0), (5, .sipush 4096, 3, 0, 0, 0), (8, .if_icmp .ge 11, 3, 19, 0, 0), (11, .aload_n 0, 1, 0, 0, 0), (12, .arraylength, 1, 0, 0, 0), (13, .sipush 128, 3, 0, 0, 0), (16, .if_icmp .ge 5, 3, 21, 0, 0), (19, .iconst 0, 1, 0, 0, 0), (20, .ireturn, 1, 0, 0, 0), (21, .aload_n 0, 1, 0, 0, 0), (22, .iload_n 1, 1, 0, 0, 0), (23, .bipush 64, 2, 0, 0, 0), (25, .irem, 1, 0, 0, 0), (26, .iaload, 1, 0, 0, 0), (27, .aload_n 0, 1, 0, 0, 0), (28, .bipush 64, 2, 0, 0, 0), (30, .iload_n 1, 1, 0, 0, 0), (31, .bipush 64, 2, 0, 0, 0), (33, .idiv, 1, 0, 0, 0), (34, .iadd, 1, 0, 0, 0), (35, .iaload, 1, 0, 0, 0), (36, .iadd, 1, 0, 0, 0), (37, .ireturn, 1, 0, 0, 0)]
def cu_256 : List (Nat × List Nat) := [(19, [])]
def G_256 : tm_G := fun _ _ _ => none
noncomputable def F_256 : List Value → tm_M → Option tm_R := tm_m tm_sh none G_256 false cd_256 cu_256 26 2
theorem gg_256 : tm_Gg G_256 := fun _ _ _ _ h => by cases h
theorem gm_256 (l : Launch) : ∀ id as M r, G_256 id as M = some r → tm_MA tm_sh l (tm_mt id) as M r := fun _ _ _ _ h => by cases h
theorem gr_256 {as : List Value} {M : tm_M} {r : tm_R} (h : F_256 as M = some r) : tm_gr M r.2 := tm_m_gr gg_256 h
theorem ck_256 : tm_cdk (tm_mt 256).1.cls false tm_mt (tm_mt 256) false cd_256 := tm_cdk_of (LK := lk_RX1) (ix := []) lc_RX1 (by decide +kernel)
theorem con_256 (l : Launch) {as : List Value} {M : tm_M} {r : tm_R} (h : F_256 as M = some r) : tm_MA tm_sh l (tm_mt 256) as M r := tm_sound (t := tm_mt 256) tm_Sok_ok tm_CL_ok gg_256 (gm_256 l) (fun _ _ => ⟨rfl, rfl⟩) ck_256 (by decide +kernel) (fun h => by cases h) (fun _ _ _ _ => tm_nos_all (by decide +kernel)) h
def cd_191 : List tm_E := [(0, .iconst 0, 1, 0, 0, 0), (1, .istore_n 3, 1, 0, 0, 0), (2, .iconst 0, 1, 0, 0, 0), (3, .istore 4, 2, 0, 0, 0), (5, .iconst 0, 1, 0, 0, 0), (6, .istore 5, 2, 0, 0, 0), (8, .iconst 1, 1, 0, 0, 0), (9, .istore 6, 2, 0, 0, 0), (11, .iload 6, 2, 0, 0, 0), (13, .aload_n 0, 1, 0, 0, 0), (14, .getfield 40, 3, 1, 10, 0), (17, .if_icmp .ge 85, 3, 102, 0, 0), (20, .aload_n 0, 1, 0, 0, 0), (21, .getfield 19, 3, 1, 2, 2), (24, .iload 6, 2, 0, 0, 0), (26, .invokestatic 46, 3, 256, 2, 1), (29, .istore 7, 2, 0, 0, 0), (31, .aload_n 0, 1, 0, 0, 0), (32, .iload 6, 2, 0, 0, 0), (34, .invokevirtual 130, 3, 255, 1, 5), (37, .iload_n 2, 1, 0, 0, 0), (38, .ishr, 1, 0, 0, 0), (39, .iconst 1, 1, 0, 0, 0), (40, .iand, 1, 0, 0, 0), (41, .ifCond .eq 55, 3, 96, 0, 0), (44, .iload 7, 2, 0, 0, 0), (46, .iload_n 1, 1, 0, 0, 0), (47, .if_icmp .le 6, 3, 53, 0, 0), (50, .goto 46, 3, 96, 0, 0), (53, .aload_n 0, 1, 0, 0, 0), (54, .getfield 15, 3, 1, 1, 2), (57, .iload 6, 2, 0, 0, 0), (59, .invokestatic 46, 3, 256, 2, 1), (62, .istore 8, 2, 0, 0, 0), (64, .iload 8, 2, 0, 0, 0), (66, .iload 4, 2, 0, 0, 0), (68, .if_icmp .gt 17, 3, 85, 0, 0), (71, .iload 8, 2, 0, 0, 0), (73, .iload 4, 2, 0, 0, 0), (75, .if_icmp .ne 21, 3, 96, 0, 0), (78, .iload 7, 2, 0, 0, 0), (80, .iload 5, 2, 0, 0, 0), (82, .if_icmp .ge 14, 3, 96, 0, 0), (85, .iload 6, 2, 0, 0, 0), (87, .istore_n 3, 1, 0, 0, 0), (88, .iload 8, 2, 0, 0, 0), (90, .istore 4, 2, 0, 0, 0), (92, .iload 7, 2, 0, 0, 0), (94, .istore 5, 2, 0, 0, 0), (96, .iinc 6 1, 3, 0, 0, 0), (99, .goto (-88), 3, 11, 0, 0), (102, .iload_n 3, 1, 0, 0, 0), (103, .ireturn, 1, 0, 0, 0)]
def cu_191 : List (Nat × List Nat) := [(11, [0, 1, 2, 3, 4, 5, 6]), (29, [0, 1, 2, 3, 4, 5, 6]), (37, [0, 1, 2, 3, 4, 5, 6, 7]), (62, [0, 1, 2, 3, 4, 5, 6, 7]), (85, [0, 1, 2, 6, 7, 8]), (96, [0, 1, 2, 3, 4, 5, 6])]
noncomputable def G_191 : tm_G := fun id as M => if id = 256 then F_256 as M else if id = 255 then F_255 as M else none
noncomputable def F_191 : List Value → tm_M → Option tm_R := tm_m tm_sh none G_191 false cd_191 cu_191 54 9
theorem gg_191 : tm_Gg G_191 := by
  intro id as M r h
  unfold G_191 at h
  rcases tm_ite_e h with ⟨_, h⟩ | ⟨_, h⟩
  · exact gr_256 h
  rcases tm_ite_e h with ⟨_, h⟩ | ⟨_, h⟩
  · exact gr_255 h
  cases h
theorem gm_191 (l : Launch) : ∀ id as M r, G_191 id as M = some r → tm_MA tm_sh l (tm_mt id) as M r := by
  intro id as M r h
  unfold G_191 at h
  rcases tm_ite_e h with ⟨rfl, h⟩ | ⟨_, h⟩
  · exact con_256 l h
  rcases tm_ite_e h with ⟨rfl, h⟩ | ⟨_, h⟩
  · exact con_255 l h
  cases h
theorem gr_191 {as : List Value} {M : tm_M} {r : tm_R} (h : F_191 as M = some r) : tm_gr M r.2 := tm_m_gr gg_191 h
theorem ck_191 : tm_cdk (tm_mt 191).1.cls false tm_mt (tm_mt 191) false cd_191 := tm_cdk_of (LK := lk_RX1) (ix := [37, 24, 39, 30, 21, 39]) lc_RX1 (by decide +kernel)
theorem con_191 (l : Launch) {as : List Value} {M : tm_M} {r : tm_R} (h : F_191 as M = some r) : tm_MA tm_sh l (tm_mt 191) as M r := tm_sound (t := tm_mt 191) tm_Sok_ok tm_CL_ok gg_191 (gm_191 l) (fun _ _ => ⟨rfl, rfl⟩) ck_191 (by decide +kernel) (fun h => by cases h) (fun _ _ _ _ => tm_nos_all (by decide +kernel)) h
def cd_192 : List tm_E := [(0, .aload_n 0, 1, 0, 0, 0), (1, .getfield 27, 3, 1, 4, 2), (4, .iload_n 1, 1, 0, 0, 0), (5, .iaload, 1, 0, 0, 0), (6, .ifCond .ne 9, 3, 15, 0, 0), (9, .iload_n 2, 1, 0, 0, 0), (10, .iconst 4, 1, 0, 0, 0), (11, .idiv, 1, 0, 0, 0), (12, .goto 9, 3, 21, 0, 0), (15, .aload_n 0, 1, 0, 0, 0), (16, .getfield 27, 3, 1, 4, 2), (19, .iload_n 1, 1, 0, 0, 0), (20, .iaload, 1, 0, 0, 0), (21, .istore_n 3, 1, 0, 0, 0), (22, .iconst 4, 1, 0, 0, 0), (23, .iload_n 3, 1, 0, 0, 0), (24, .imul, 1, 0, 0, 0), (25, .iload_n 2, 1, 0, 0, 0), (26, .aload_n 0, 1, 0, 0, 0), (27, .getfield 30, 3, 1, 5, 2), (30, .iload_n 1, 1, 0, 0, 0), (31, .iaload, 1, 0, 0, 0), (32, .iadd, 1, 0, 0, 0), (33, .iconst 3, 1, 0, 0, 0), (34, .iand, 1, 0, 0, 0), (35, .iadd, 1, 0, 0, 0), (36, .ireturn, 1, 0, 0, 0)]
def cu_192 : List (Nat × List Nat) := [(21, [0, 1, 2])]
def G_192 : tm_G := fun _ _ _ => none
noncomputable def F_192 : List Value → tm_M → Option tm_R := tm_m tm_sh none G_192 false cd_192 cu_192 28 4
theorem gg_192 : tm_Gg G_192 := fun _ _ _ _ h => by cases h
theorem gm_192 (l : Launch) : ∀ id as M r, G_192 id as M = some r → tm_MA tm_sh l (tm_mt id) as M r := fun _ _ _ _ h => by cases h
theorem gr_192 {as : List Value} {M : tm_M} {r : tm_R} (h : F_192 as M = some r) : tm_gr M r.2 := tm_m_gr gg_192 h
theorem ck_192 : tm_cdk (tm_mt 192).1.cls false tm_mt (tm_mt 192) false cd_192 := tm_cdk_of (LK := lk_RX1) (ix := [13, 13, 15]) lc_RX1 (by decide +kernel)
theorem con_192 (l : Launch) {as : List Value} {M : tm_M} {r : tm_R} (h : F_192 as M = some r) : tm_MA tm_sh l (tm_mt 192) as M r := tm_sound (t := tm_mt 192) tm_Sok_ok tm_CL_ok gg_192 (gm_192 l) (fun _ _ => ⟨rfl, rfl⟩) ck_192 (by decide +kernel) (fun h => by cases h) (fun _ _ _ _ => tm_nos_all (by decide +kernel)) h
def cd_193 : List tm_E := [(0, .iconst 0, 1, 0, 0, 0), (1, .istore_n 3, 1, 0, 0, 0), (2, .iload_n 3, 1, 0, 0, 0), (3, .aload_n 0, 1, 0, 0, 0), (4, .getfield 24, 3, 1, 3, 2), (7, .arraylength, 1, 0, 0, 0), (8, .if_icmp .ge 70, 3, 78, 0, 0), (11, .iconst 1, 1, 0, 0, 0), (12, .iload_n 3, 1, 0, 0, 0), (13, .iconst 2, 1, 0, 0, 0), (14, .idiv, 1, 0, 0, 0), (15, .ishl, 1, 0, 0, 0), (16, .istore 4, 2, 0, 0, 0), (18, .iload_n 1, 1, 0, 0, 0), (19, .iload 4, 2, 0, 0, 0), (21, .iand, 1, 0, 0, 0), (22, .ifCond .eq 20, 3, 42, 0, 0), (25, .aload_n 0, 1, 0, 0, 0), (26, .getfield 24, 3, 1, 3, 2), (29, .iload_n 3, 1, 0, 0, 0), (30, .iaload, 1, 0, 0, 0), (31, .iload_n 2, 1, 0, 0, 0), (32, .ishr, 1, 0, 0, 0), (33, .iconst 1, 1, 0, 0, 0), (34, .iand, 1, 0, 0, 0), (35, .ifCond .eq 7, 3, 42, 0, 0), (38, .iconst 1, 1, 0, 0, 0), (39, .goto 4, 3, 43, 0, 0), (42, .iconst 0, 1, 0, 0, 0), (43, .istore 5, 2, 0, 0, 0), (45, .iload 5, 2, 0, 0, 0), (47, .ifCond .eq 25, 3, 72, 0, 0), (50, .aload_n 0, 1, 0, 0, 0), (51, .iload_n 1, 1, 0, 0, 0), (52, .iload 4, 2, 0, 0, 0), (54, .ixor, 1, 0, 0, 0), (55, .invokevirtual 130, 3, 255, 1, 5), (58, .aload_n 0, 1, 0, 0, 0), (59, .iload_n 3, 1, 0, 0, 0), (60, .iload_n 2, 1, 0, 0, 0), (61, .invokevirtual 139, 3, 192, 2, 5), (64, .ishr, 1, 0, 0, 0), (65, .iconst 1, 1, 0, 0, 0), (66, .iand, 1, 0, 0, 0), (67, .ifCond .eq 5, 3, 72, 0, 0), (70, .iload_n 3, 1, 0, 0, 0), (71, .ireturn, 1, 0, 0, 0), (72, .iinc 3 1, 3, 0, 0, 0), (75, .goto (-73), 3, 2, 0, 0), (78, .iconst (-1), 1, 0, 0, 0), (79, .ireturn, 1, 0, 0, 0)]
def cu_193 : List (Nat × List Nat) := [(2, [0, 1, 2, 3]), (42, [0, 1, 2, 3, 4]), (43, [0, 1, 2, 3, 4]), (58, [0, 1, 2, 3]), (64, [0, 1, 2, 3]), (72, [0, 1, 2, 3])]
noncomputable def G_193 : tm_G := fun id as M => if id = 255 then F_255 as M else if id = 192 then F_192 as M else none
noncomputable def F_193 : List Value → tm_M → Option tm_R := tm_m tm_sh none G_193 false cd_193 cu_193 52 6
theorem gg_193 : tm_Gg G_193 := by
  intro id as M r h
  unfold G_193 at h
  rcases tm_ite_e h with ⟨_, h⟩ | ⟨_, h⟩
  · exact gr_255 h
  rcases tm_ite_e h with ⟨_, h⟩ | ⟨_, h⟩
  · exact gr_192 h
  cases h
theorem gm_193 (l : Launch) : ∀ id as M r, G_193 id as M = some r → tm_MA tm_sh l (tm_mt id) as M r := by
  intro id as M r h
  unfold G_193 at h
  rcases tm_ite_e h with ⟨rfl, h⟩ | ⟨_, h⟩
  · exact con_255 l h
  rcases tm_ite_e h with ⟨rfl, h⟩ | ⟨_, h⟩
  · exact con_192 l h
  cases h
theorem gr_193 {as : List Value} {M : tm_M} {r : tm_R} (h : F_193 as M = some r) : tm_gr M r.2 := tm_m_gr gg_193 h
theorem ck_193 : tm_cdk (tm_mt 193).1.cls false tm_mt (tm_mt 193) false cd_193 := tm_cdk_of (LK := lk_RX1) (ix := [12, 12, 30, 40]) lc_RX1 (by decide +kernel)
theorem con_193 (l : Launch) {as : List Value} {M : tm_M} {r : tm_R} (h : F_193 as M = some r) : tm_MA tm_sh l (tm_mt 193) as M r := tm_sound (t := tm_mt 193) tm_Sok_ok tm_CL_ok gg_193 (gm_193 l) (fun _ _ => ⟨rfl, rfl⟩) ck_193 (by decide +kernel) (fun h => by cases h) (fun _ _ _ _ => tm_nos_all (by decide +kernel)) h
