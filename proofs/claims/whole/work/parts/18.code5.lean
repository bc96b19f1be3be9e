/-! codes, functions and contracts of methods -/
def cd_142 : List tm_E := [(0, .iconst 0, 1, 0, 0, 0), (1, .istore_n 1, 1, 0, 0, 0), (2, .iload_n 1, 1, 0, 0, 0), (3, .iconst 2, 1, 0, 0, 0), (4, .if_icmp .ge 116, 3, 120, 0, 0), (7, .aload_n 0, 1, 0, 0, 0), (8, .getfield 28, 3, 9, 3, 2), (11, .iload_n 1, 1, 0, 0, 0), (12, .iaload, 1, 0, 0, 0), (13, .invokestatic 78, 3, 114, 1, 1), (16, .ifCond .eq 98, 3, 114, 0, 0), (19, .aload_n 0, 1, 0, 0, 0), (20, .getfield 24, 3, 9, 2, 2), (23, .iload_n 1, 1, 0, 0, 0), (24, .iaload, 1, 0, 0, 0), (25, .invokestatic 78, 3, 114, 1, 1), (28, .ifCond .ne 6, 3, 34, 0, 0), (31, .goto 83, 3, 114, 0, 0), (34, .aload_n 0, 1, 0, 0, 0), (35, .getfield 31, 3, 9, 4, 2), (38, .iload_n 1, 1, 0, 0, 0), (39, .baload, 1, 0, 0, 0), (40, .ifCond .eq 54, 3, 94, 0, 0), (43, .aload_n 0, 1, 0, 0, 0), (44, .getfield 20, 3, 9, 1, 2), (47, .aload_n 0, 1, 0, 0, 0), (48, .getfield 24, 3, 9, 2, 2), (51, .iload_n 1, 1, 0, 0, 0), (52, .iaload, 1, 0, 0, 0), (53, .aaload, 1, 0, 0, 0), (54, .iconst 0, 1, 0, 0, 0), (55, .invokevirtual 66, 3, 111, 1, 12), (58, .aload_n 0, 1, 0, 0, 0), (59, .getfield 20, 3, 9, 1, 2), (62, .aload_n 0, 1, 0, 0, 0), (63, .getfield 28, 3, 9, 3, 2), (66, .iload_n 1, 1, 0, 0, 0), (67, .iaload, 1, 0, 0, 0), (68, .aaload, 1, 0, 0, 0), (69, .iconst 2, 1, 0, 0, 0), (70, .iload_n 1, 1, 0, 0, 0), (71, .iadd, 1, 0, 0, 0), (72, .invokevirtual 66, 3, 111, 1, 12), (75, .aload_n 0, 1, 0, 0, 0), (76, .getfield 24, 3, 9, 2, 2), (79, .iload_n 1, 1, 0, 0, 0), (80, .aload_n 0, 1, 0, 0, 0), (81, .getfield 28, 3, 9, 3, 2), (84, .iload_n 1, 1, 0, 0, 0), (85, .iaload, 1, 0, 0, 0), (86, .iastore, 1, 0, 0, 0), (87, .aload_n 0, 1, 0, 0, 0), (88, .getfield 28, 3, 9, 3, 2), (91, .iload_n 1, 1, 0, 0, 0), (92, .iconst (-1), 1, 0, 0, 0), (93, .iastore, 1, 0, 0, 0), (94, .aload_n 0, 1, 0, 0, 0), (95, .getfield 31, 3, 9, 4, 2), (98, .iload_n 1, 1, 0, 0, 0), (99, .aload_n 0, 1, 0, 0, 0), (100, .getfield 31, 3, 9, 4, 2), (103, .iload_n 1, 1, 0, 0, 0), (104, .baload, 1, 0, 0, 0), (105, .ifCond .ne 7, 3, 112, 0, 0), (108, .iconst 1, 1, 0, 0, 0), (109, .goto 4, 3, 113, 0, 0), (112, .iconst 0, 1, 0, 0, 0), (113, .bastore, 1, 0, 0, 0), (114, .iinc 1 1, 3, 0, 0, 0), (117, .goto (-115), 3, 2, 0, 0), (120, .return_, 1, 0, 0, 0)]
def cu_142 : List (Nat × List Nat) := [(2, [0, 1]), (16, [0, 1]), (28, [0, 1]), (58, [0, 1]), (75, [0, 1]), (94, [0, 1]), (113, [0, 1]), (114, [0, 1])]
noncomputable def G_142 : tm_G := fun id as M => if id = 114 then F_114 as M else if id = 111 then F_111 as M else none
noncomputable def F_142 : List Value → tm_M → Option tm_R := tm_m tm_sh none G_142 false cd_142 cu_142 72 2
theorem gg_142 : tm_Gg G_142 := by
  intro id as M r h
  unfold G_142 at h
  rcases tm_ite_e h with ⟨_, h⟩ | ⟨_, h⟩
  · exact gr_114 h
  rcases tm_ite_e h with ⟨_, h⟩ | ⟨_, h⟩
  · exact gr_111 h
  cases h
theorem gm_142 (l : Launch) : ∀ id as M r, G_142 id as M = some r → tm_MA tm_sh l (tm_mt id) as M r := by
  intro id as M r h
  unfold G_142 at h
  rcases tm_ite_e h with ⟨rfl, h⟩ | ⟨_, h⟩
  · exact con_114 l h
  rcases tm_ite_e h with ⟨rfl, h⟩ | ⟨_, h⟩
  · exact con_111 l h
  cases h
theorem gr_142 {as : List Value} {M : tm_M} {r : tm_R} (h : F_142 as M = some r) : tm_gr M r.2 := tm_m_gr gg_142 h
theorem ck_142 : tm_cdk (tm_mt 142).1.cls false tm_mt (tm_mt 142) false cd_142 := tm_cdk_of (LK := lk_RX9) (ix := [16, 37, 15, 37, 33, 11, 15, 14, 11, 16, 14, 15, 16, 16, 33, 33]) lc_RX9 (by decide +kernel)
theorem con_142 (l : Launch) {as : List Value} {M : tm_M} {r : tm_R} (h : F_142 as M = some r) : tm_MA tm_sh l (tm_mt 142) as M r := tm_sound (t := tm_mt 142) tm_Sok_ok tm_CL_ok gg_142 (gm_142 l) (fun _ _ => ⟨rfl, rfl⟩) ck_142 (by decide +kernel) (fun h => by cases h) (fun _ _ _ _ => tm_nos_all (by decide +kernel)) h
def cd_143 : List tm_E := [(0, .aload_n 0, 1, 0, 0, 0), (1, .invokevirtual 164, 3, 129, 0, 37), (4, .istore_n 3, 1, 0, 0, 0), (5, .aload_n 0, 1, 0, 0, 0), (6, .aload_n 1, 1, 0, 0, 0), (7, .iload_n 3, 1, 0, 0, 0), (8, .iload_n 2, 1, 0, 0, 0), (9, .invokevirtual 167, 3, 130, 3, 37), (12, .istore 4, 2, 0, 0, 0), (14, .aload_n 0, 1, 0, 0, 0), (15, .aload_n 1, 1, 0, 0, 0), (16, .iload_n 2, 1, 0, 0, 0), (17, .invokevirtual 171, 3, 133, 2, 36), (20, .aload_n 0, 1, 0, 0, 0), (21, .aload_n 1, 1, 0, 0, 0), (22, .iload_n 3, 1, 0, 0, 0), (23, .iload 4, 2, 0, 0, 0), (25, .iload_n 2, 1, 0, 0, 0), (26, .invokevirtual 175, 3, 134, 4, 37), (29, .ifCond .ne 23, 3, 52, 0, 0), (32, .aload_n 0, 1, 0, 0, 0), (33, .iload 4, 2, 0, 0, 0), (35, .iload_n 2, 1, 0, 0, 0), (36, .invokevirtual 179, 3, 135, 2, 37), (39, .ifCond .ne 13, 3, 52, 0, 0), (42, .aload_n 0, 1, 0, 0, 0), (43, .iload 4, 2, 0, 0, 0), (45, .iload_n 2, 1, 0, 0, 0), (46, .invokevirtual 183, 3, 137, 2, 37), (49, .ifCond .eq 7, 3, 56, 0, 0), (52, .iconst 1, 1, 0, 0, 0), (53, .goto 4, 3, 57, 0, 0), (56, .iconst 0, 1, 0, 0, 0), (57, .istore 5, 2, 0, 0, 0), (59, .iload 5, 2, 0, 0, 0), (61, .ifCond .eq 10, 3, 71, 0, 0), (64, .aload_n 0, 1, 0, 0, 0), (65, .invokevirtual 186, 3, 138, 0, 36), (68, .goto 9, 3, 77, 0, 0), (71, .aload_n 0, 1, 0, 0, 0), (72, .aload_n 1, 1, 0, 0, 0), (73, .iload_n 2, 1, 0, 0, 0), (74, .invokevirtual 189, 3, 141, 2, 36), (77, .aload_n 0, 1, 0, 0, 0), (78, .invokevirtual 192, 3, 142, 0, 36), (81, .aload_n 0, 1, 0, 0, 0), (82, .getfield 12, 3, 9, 0, 2), (85, .iload_n 2, 1, 0, 0, 0), (86, .iload 4, 2, 0, 0, 0), (88, .aload_n 0, 1, 0, 0, 0), (89, .getfield 20, 3, 9, 1, 2), (92, .invokevirtual 160, 3, 127, 3, 16), (95, .aload_n 0, 1, 0, 0, 0), (96, .iload 4, 2, 0, 0, 0), (98, .putfield 69, 3, 9, 5, 0), (101, .iload 5, 2, 0, 0, 0), (103, .ireturn, 1, 0, 0, 0)]
def cu_143 : List (Nat × List Nat) := [(4, [0, 1, 2]), (12, [0, 1, 2, 3]), (20, [0, 1, 2, 3, 4]), (29, [0, 1, 2, 4]), (39, [0, 1, 2, 4]), (49, [0, 1, 2, 4]), (52, [0, 1, 2, 4]), (57, [0, 1, 2, 4]), (68, [0, 2, 4, 5]), (77, [0, 2, 4, 5]), (81, [0, 2, 4, 5]), (95, [0, 4, 5])]
noncomputable def G_143 : tm_G := fun id as M => if id = 129 then F_129 as M else if id = 130 then F_130 as M else if id = 133 then F_133 as M else if id = 134 then F_134 as M else if id = 135 then F_135 as M else if id = 137 then F_137 as M else if id = 138 then F_138 as M else if id = 141 then F_141 as M else if id = 142 then F_142 as M else if id = 127 then F_127 as M else none
noncomputable def F_143 : List Value → tm_M → Option tm_R := tm_m tm_sh none G_143 true cd_143 cu_143 58 6
theorem gg_143 : tm_Gg G_143 := by
  intro id as M r h
  unfold G_143 at h
  rcases tm_ite_e h with ⟨_, h⟩ | ⟨_, h⟩
  · exact gr_129 h
  rcases tm_ite_e h with ⟨_, h⟩ | ⟨_, h⟩
  · exact gr_130 h
  rcases tm_ite_e h with ⟨_, h⟩ | ⟨_, h⟩
  · exact gr_133 h
  rcases tm_ite_e h with ⟨_, h⟩ | ⟨_, h⟩
  · exact gr_134 h
  rcases tm_ite_e h with ⟨_, h⟩ | ⟨_, h⟩
  · exact gr_135 h
  rcases tm_ite_e h with ⟨_, h⟩ | ⟨_, h⟩
  · exact gr_137 h
  rcases tm_ite_e h with ⟨_, h⟩ | ⟨_, h⟩
  · exact gr_138 h
  rcases tm_ite_e h with ⟨_, h⟩ | ⟨_, h⟩
  · exact gr_141 h
  rcases tm_ite_e h with ⟨_, h⟩ | ⟨_, h⟩
  · exact gr_142 h
  rcases tm_ite_e h with ⟨_, h⟩ | ⟨_, h⟩
  · exact gr_127 h
  cases h
theorem gm_143 (l : Launch) : ∀ id as M r, G_143 id as M = some r → tm_MA tm_sh l (tm_mt id) as M r := by
  intro id as M r h
  unfold G_143 at h
  rcases tm_ite_e h with ⟨rfl, h⟩ | ⟨_, h⟩
  · exact con_129 l h
  rcases tm_ite_e h with ⟨rfl, h⟩ | ⟨_, h⟩
  · exact con_130 l h
  rcases tm_ite_e h with ⟨rfl, h⟩ | ⟨_, h⟩
  · exact con_133 l h
  rcases tm_ite_e h with ⟨rfl, h⟩ | ⟨_, h⟩
  · exact con_134 l h
  rcases tm_ite_e h with ⟨rfl, h⟩ | ⟨_, h⟩
  · exact con_135 l h
  rcases tm_ite_e h with ⟨rfl, h⟩ | ⟨_, h⟩
  · exact con_137 l h
  rcases tm_ite_e h with ⟨rfl, h⟩ | ⟨_, h⟩
  · exact con_138 l h
  rcases tm_ite_e h with ⟨rfl, h⟩ | ⟨_, h⟩
  · exact con_141 l h
  rcases tm_ite_e h with ⟨rfl, h⟩ | ⟨_, h⟩
  · exact con_142 l h
  rcases tm_ite_e h with ⟨rfl, h⟩ | ⟨_, h⟩
  · exact con_127 l h
  cases h
theorem gr_143 {as : List Value} {M : tm_M} {r : tm_R} (h : F_143 as M = some r) : tm_gr M r.2 := tm_m_gr gg_143 h
theorem ck_143 : tm_cdk (tm_mt 143).1.cls false tm_mt (tm_mt 143) true cd_143 := tm_cdk_of (LK := lk_RX9) (ix := [61, 52, 62, 63, 64, 65, 66, 67, 68, 44, 11, 47, 17]) lc_RX9 (by decide +kernel)
theorem con_143 (l : Launch) {as : List Value} {M : tm_M} {r : tm_R} (h : F_143 as M = some r) : tm_MA tm_sh l (tm_mt 143) as M r := tm_sound (t := tm_mt 143) tm_Sok_ok tm_CL_ok gg_143 (gm_143 l) (fun _ _ => ⟨rfl, rfl⟩) ck_143 (by decide +kernel) (fun h => by cases h) (fun _ _ _ _ => tm_nos_all (by decide +kernel)) h
def cd_144 : List tm_E := [(0, .aload_n 0, 1, 0, 0, 0), (1, .invokevirtual 36, 3, 112, 0, 36), (4, .aload_n 0, 1, 0, 0, 0), (5, .getfield 12, 3, 9, 0, 2), (8, .aload_n 2, 1, 0, 0, 0), (9, .getfield 39, 3, 7, 5, 0), (12, .invokevirtual 45, 3, 113, 1, 16), (15, .iconst 0, 1, 0, 0, 0), (16, .istore 4, 2, 0, 0, 0), (18, .iconst 0, 1, 0, 0, 0), (19, .istore 5, 2, 0, 0, 0), (21, .iconst 0, 1, 0, 0, 0), (22, .istore 6, 2, 0, 0, 0), (24, .iload 6, 2, 0, 0, 0), (26, .aload_n 2, 1, 0, 0, 0), (27, .getfield 39, 3, 7, 5, 0), (30, .if_icmp .ge 91, 3, 121, 0, 0), (33, .iload 5, 2, 0, 0, 0), (35, .ifCond .le 7, 3, 42, 0, 0), (38, .iconst 1, 1, 0, 0, 0), (39, .goto 4, 3, 43, 0, 0), (42, .iconst 0, 1, 0, 0, 0), (43, .istore 7, 2, 0, 0, 0), (45, .iload 4, 2, 0, 0, 0), (47, .aload_n 2, 1, 0, 0, 0), (48, .getfield 49, 3, 7, 6, 0), (51, .if_icmp .ge 34, 3, 85, 0, 0), (54, .aload_n 2, 1, 0, 0, 0), (55, .getfield 52, 3, 7, 0, 2), (58, .iload 4, 2, 0, 0, 0), (60, .iaload, 1, 0, 0, 0), (61, .iload 6, 2, 0, 0, 0), (63, .if_icmp .gt 22, 3, 85, 0, 0), (66, .iload 7, 2, 0, 0, 0), (68, .ifCond .ne 11, 3, 79, 0, 0), (71, .aload_n 0, 1, 0, 0, 0), (72, .aload_n 1, 1, 0, 0, 0), (73, .aload_n 2, 1, 0, 0, 0), (74, .iload 4, 2, 0, 0, 0), (76, .invokevirtual 55, 3, 126, 3, 36), (79, .iinc 4 1, 3, 0, 0, 0), (82, .goto (-37), 3, 45, 0, 0), (85, .iload 7, 2, 0, 0, 0), (87, .ifCond .eq 15, 3, 102, 0, 0), (90, .iinc 5 (-1), 3, 0, 0, 0), (93, .aload_n 0, 1, 0, 0, 0), (94, .iload 6, 2, 0, 0, 0), (96, .invokevirtual 59, 3, 128, 1, 36), (99, .goto 16, 3, 115, 0, 0), (102, .aload_n 0, 1, 0, 0, 0), (103, .aload_n 1, 1, 0, 0, 0), (104, .iload 6, 2, 0, 0, 0), (106, .invokevirtual 62, 3, 143, 2, 37), (109, .ifCond .eq 6, 3, 115, 0, 0), (112, .iload_n 3, 1, 0, 0, 0), (113, .istore 5, 2, 0, 0, 0), (115, .iinc 6 1, 3, 0, 0, 0), (118, .goto (-94), 3, 24, 0, 0), (121, .return_, 1, 0, 0, 0)]
def cu_144 : List (Nat × List Nat) := [(4, [0, 1, 2, 3]), (15, [0, 1, 2, 3]), (24, [0, 1, 2, 3, 4, 5, 6]), (43, [0, 1, 2, 3, 4, 5, 6]), (45, [0, 1, 2, 3, 4, 5, 6, 7]), (79, [0, 1, 2, 3, 4, 5, 6, 7]), (85, [0, 1, 2, 3, 4, 5, 6, 7]), (99, [0, 1, 2, 3, 4, 5, 6]), (109, [0, 1, 2, 3, 4, 5, 6]), (115, [0, 1, 2, 3, 4, 5, 6])]
noncomputable def G_144 : tm_G := fun id as M => if id = 112 then F_112 as M else if id = 113 then F_113 as M else if id = 126 then F_126 as M else if id = 128 then F_128 as M else if id = 143 then F_143 as M else none
noncomputable def F_144 : List Value → tm_M → Option tm_R := tm_m tm_sh none G_144 false cd_144 cu_144 60 8
theorem gg_144 : tm_Gg G_144 := by
  intro id as M r h
  unfold G_144 at h
  rcases tm_ite_e h with ⟨_, h⟩ | ⟨_, h⟩
  · exact gr_112 h
  rcases tm_ite_e h with ⟨_, h⟩ | ⟨_, h⟩
  · exact gr_113 h
  rcases tm_ite_e h with ⟨_, h⟩ | ⟨_, h⟩
  · exact gr_126 h
  rcases tm_ite_e h with ⟨_, h⟩ | ⟨_, h⟩
  · exact gr_128 h
  rcases tm_ite_e h with ⟨_, h⟩ | ⟨_, h⟩
  · exact gr_143 h
  cases h
theorem gm_144 (l : Launch) : ∀ id as M r, G_144 id as M = some r → tm_MA tm_sh l (tm_mt id) as M r := by
  intro id as M r h
  unfold G_144 at h
  rcases tm_ite_e h with ⟨rfl, h⟩ | ⟨_, h⟩
  · exact con_112 l h
  rcases tm_ite_e h with ⟨rfl, h⟩ | ⟨_, h⟩
  · exact con_113 l h
  rcases tm_ite_e h with ⟨rfl, h⟩ | ⟨_, h⟩
  · exact con_126 l h
  rcases tm_ite_e h with ⟨rfl, h⟩ | ⟨_, h⟩
  · exact con_128 l h
  rcases tm_ite_e h with ⟨rfl, h⟩ | ⟨_, h⟩
  · exact con_143 l h
  cases h
theorem gr_144 {as : List Value} {M : tm_M} {r : tm_R} (h : F_144 as M = some r) : tm_gr M r.2 := tm_m_gr gg_144 h
theorem ck_144 : tm_cdk (tm_mt 144).1.cls false tm_mt (tm_mt 144) false cd_144 := tm_cdk_of (LK := lk_RX9) (ix := [69, 44, 70, 71, 70, 72, 34, 73, 74, 75]) lc_RX9 (by decide +kernel)
theorem con_144 (l : Launch) {as : List Value} {M : tm_M} {r : tm_R} (h : F_144 as M = some r) : tm_MA tm_sh l (tm_mt 144) as M r := tm_sound (t := tm_mt 144) tm_Sok_ok tm_CL_ok gg_144 (gm_144 l) (fun _ _ => ⟨rfl, rfl⟩) ck_144 (by decide +kernel) (fun h => by cases h) (fun _ _ _ _ => tm_nos_all (by decide +kernel)) h
def cd_145 : List tm_E := [(0, .aload_n 0, 1, 0, 0, 0), (1, .getfield 97, 3, 10, 10, 0), (4, .ifCond .ne 6, 3, 10, 0, 0), (7, .ldc 138, 2, 100000, 0, 0), (9, .ireturn, 1, 0, 0, 0), (10, .aload_n 0, 1, 0, 0, 0), (11, .getfield 23, 3, 10, 2, 2), (14, .aload_n 0, 1, 0, 0, 0), (15, .getfield 51, 3, 10, 6, 2), (18, .aload_n 0, 1, 0, 0, 0), (19, .getfield 61, 3, 10, 8, 2), (22, .aload_n 0, 1, 0, 0, 0), (23, .getfield 68, 3, 10, 12, 0), (26, .invokevirtual 139, 3, 144, 3, 36), (29, .aload_n 0, 1, 0, 0, 0), (30, .getfield 23, 3, 10, 2, 2), (33, .getfield 101, 3, 9, 0, 2), (36, .getfield 143, 3, 4, 9, 0), (39, .aload_n 0, 1, 0, 0, 0), (40, .getfield 72, 3, 10, 13, 0), (43, .aload_n 0, 1, 0, 0, 0), (44, .getfield 23, 3, 10, 2, 2), (47, .getfield 101, 3, 9, 0, 2), (50, .getfield 146, 3, 4, 7, 0), (53, .imul, 1, 0, 0, 0), (54, .isub, 1, 0, 0, 0), (55, .ireturn, 1, 0, 0, 0)]
def cu_145 : List (Nat × List Nat) := [(29, [0])]
noncomputable def G_145 : tm_G := fun id as M => if id = 144 then F_144 as M else none
noncomputable def F_145 : List Value → tm_M → Option tm_R := tm_m tm_sh none G_145 false cd_145 cu_145 28 1
theorem gg_145 : tm_Gg G_145 := by
  intro id as M r h
  unfold G_145 at h
  rcases tm_ite_e h with ⟨_, h⟩ | ⟨_, h⟩
  · exact gr_144 h
  cases h
theorem gm_145 (l : Launch) : ∀ id as M r, G_145 id as M = some r → tm_MA tm_sh l (tm_mt id) as M r := by
  intro id as M r h
  unfold G_145 at h
  rcases tm_ite_e h with ⟨rfl, h⟩ | ⟨_, h⟩
  · exact con_144 l h
  cases h
theorem gr_145 {as : List Value} {M : tm_M} {r : tm_R} (h : F_145 as M = some r) : tm_gr M r.2 := tm_m_gr gg_145 h
theorem ck_145 : tm_cdk (tm_mt 145).1.cls false tm_mt (tm_mt 145) false cd_145 := tm_cdk_of (LK := lk_RX10) (ix := [55, 56, 41, 37, 47, 57, 58, 41, 42, 59, 60, 41, 42, 61]) lc_RX10 (by decide +kernel)
theorem con_145 (l : Launch) {as : List Value} {M : tm_M} {r : tm_R} (h : F_145 as M = some r) : tm_MA tm_sh l (tm_mt 145) as M r := tm_sound (t := tm_mt 145) tm_Sok_ok tm_CL_ok gg_145 (gm_145 l) (fun _ _ => ⟨rfl, rfl⟩) ck_145 (by decide +kernel) (fun h => by cases h) (fun _ _ _ _ => tm_nos_all (by decide +kernel)) h
def cd_146 : List tm_E := [(0, .iconst 0, 1, 0, 0, 0), (1, .istore_n 1, 1, 0, 0, 0), (2, .iload_n 1, 1, 0, 0, 0), (3, .bipush 6, 2, 0, 0, 0), (5, .if_icmp .ge 55, 3, 60, 0, 0), (8, .aload_n 0, 1, 0, 0, 0), (9, .getfield 80, 3, 11, 36, 2), (12, .iload_n 1, 1, 0, 0, 0), (13, .iload_n 1, 1, 0, 0, 0), (14, .iconst 2, 1, 0, 0, 0), (15, .if_icmp .ge 9, 3, 24, 0, 0), (18, .iconst 2, 1, 0, 0, 0), (19, .iload_n 1, 1, 0, 0, 0), (20, .iadd, 1, 0, 0, 0), (21, .goto 4, 3, 25, 0, 0), (24, .iconst 0, 1, 0, 0, 0), (25, .iastore, 1, 0, 0, 0), (26, .aload_n 0, 1, 0, 0, 0), (27, .getfield 83, 3, 11, 37, 2), (30, .iload_n 1, 1, 0, 0, 0), (31, .iconst 0, 1, 0, 0, 0), (32, .iastore, 1, 0, 0, 0), (33, .aload_n 0, 1, 0, 0, 0), (34, .getfield 86, 3, 11, 38, 2), (37, .iload_n 1, 1, 0, 0, 0), (38, .iconst 0, 1, 0, 0, 0), (39, .iastore, 1, 0, 0, 0), (40, .aload_n 0, 1, 0, 0, 0), (41, .getfield 89, 3, 11, 39, 2), (44, .iload_n 1, 1, 0, 0, 0), (45, .iconst (-1), 1, 0, 0, 0), (46, .iastore, 1, 0, 0, 0), (47, .aload_n 0, 1, 0, 0, 0), (48, .getfield 149, 3, 11, 67, 2), (51, .iload_n 1, 1, 0, 0, 0), (52, .iconst 0, 1, 0, 0, 0), (53, .iastore, 1, 0, 0, 0), (54, .iinc 1 1, 3, 0, 0, 0), (57, .goto (-55), 3, 2, 0, 0), (60, .iconst 0, 1, 0, 0, 0), (61, .istore_n 1, 1, 0, 0, 0), (62, .iload_n 1, 1, 0, 0, 0), (63, .bipush 12, 2, 0, 0, 0), (65, .if_icmp .ge 16, 3, 81, 0, 0), (68, .aload_n 0, 1, 0, 0, 0), (69, .getfield 101, 3, 11, 43, 2), (72, .iload_n 1, 1, 0, 0, 0), (73, .iconst 0, 1, 0, 0, 0), (74, .iastore, 1, 0, 0, 0), (75, .iinc 1 1, 3, 0, 0, 0), (78, .goto (-16), 3, 62, 0, 0), (81, .iconst 0, 1, 0, 0, 0), (82, .istore_n 1, 1, 0, 0, 0), (83, .iload_n 1, 1, 0, 0, 0), (84, .sipush 4800, 3, 0, 0, 0), (87, .if_icmp .ge 16, 3, 103, 0, 0), (90, .aload_n 0, 1, 0, 0, 0), (91, .getfield 119, 3, 11, 49, 2), (94, .iload_n 1, 1, 0, 0, 0), (95, .iconst (-1), 1, 0, 0, 0), (96, .iastore, 1, 0, 0, 0), (97, .iinc 1 1, 3, 0, 0, 0), (100, .goto (-17), 3, 83, 0, 0), (103, .aload_n 0, 1, 0, 0, 0), (104, .getfield 98, 3, 11, 42, 2), (107, .iconst 0, 1, 0, 0, 0), (108, .iconst (-1), 1, 0, 0, 0), (109, .iastore, 1, 0, 0, 0), (110, .aload_n 0, 1, 0, 0, 0), (111, .getfield 98, 3, 11, 42, 2), (114, .iconst 1, 1, 0, 0, 0), (115, .iconst (-1), 1, 0, 0, 0), (116, .iastore, 1, 0, 0, 0), (117, .aload_n 0, 1, 0, 0, 0), (118, .iconst 0, 1, 0, 0, 0), (119, .putfield 381, 3, 11, 60, 0), (122, .aload_n 0, 1, 0, 0, 0), (123, .iconst 0, 1, 0, 0, 0), (124, .putfield 412, 3, 11, 61, 0), (127, .aload_n 0, 1, 0, 0, 0), (128, .iconst 0, 1, 0, 0, 0), (129, .putfield 409, 3, 11, 62, 0), (132, .aload_n 0, 1, 0, 0, 0), (133, .iconst 0, 1, 0, 0, 0), (134, .putfield 415, 3, 11, 63, 0), (137, .aload_n 0, 1, 0, 0, 0), (138, .iconst 0, 1, 0, 0, 0), (139, .putfield 403, 3, 11, 66, 0), (142, .aload_n 0, 1, 0, 0, 0), (143, .iconst 0, 1, 0, 0, 0), (144, .putfield 391, 3, 11, 65, 0), (147, .return_, 1, 0, 0, 0)]
def cu_146 : List (Nat × List Nat) := [(2, [0, 1]), (25, [0, 1]), (62, [0, 1]), (83, [0, 1])]
def G_146 : tm_G := fun _ _ _ => none
noncomputable def F_146 : List Value → tm_M → Option tm_R := tm_m tm_sh none G_146 false cd_146 cu_146 93 2
theorem gg_146 : tm_Gg G_146 := fun _ _ _ _ h => by cases h
theorem gm_146 (l : Launch) : ∀ id as M r, G_146 id as M = some r → tm_MA tm_sh l (tm_mt id) as M r := fun _ _ _ _ h => by cases h
theorem gr_146 {as : List Value} {M : tm_M} {r : tm_R} (h : F_146 as M = some r) : tm_gr M r.2 := tm_m_gr gg_146 h
theorem ck_146 : tm_cdk (tm_mt 146).1.cls false tm_mt (tm_mt 146) false cd_146 := tm_cdk_of (LK := lk_RX11) (ix := [163, 164, 165, 166, 167, 168, 169, 170, 170, 171, 172, 173, 174, 175, 176]) lc_RX11 (by decide +kernel)
theorem con_146 (l : Launch) {as : List Value} {M : tm_M} {r : tm_R} (h : F_146 as M = some r) : tm_MA tm_sh l (tm_mt 146) as M r := tm_sound (t := tm_mt 146) tm_Sok_ok tm_CL_ok gg_146 (gm_146 l) (fun _ _ => ⟨rfl, rfl⟩) ck_146 (by decide +kernel) (fun h => by cases h) (fun _ _ _ _ => tm_nos_all (by decide +kernel)) h
def cd_147 : List tm_E := [(0, .iconst 0, 1, 0, 0, 0), (1, .istore_n 1, 1, 0, 0, 0), (2, .iconst 0, 1, 0, 0, 0), (3, .istore_n 2, 1, 0, 0, 0), (4, .iload_n 2, 1, 0, 0, 0), (5, .bipush 6, 2, 0, 0, 0), (7, .if_icmp .ge 27, 3, 34, 0, 0), (10, .iload_n 1, 1, 0, 0, 0), (11, .aload_n 0, 1, 0, 0, 0), (12, .getfield 80, 3, 11, 36, 2), (15, .iload_n 2, 1, 0, 0, 0), (16, .iaload, 1, 0, 0, 0), (17, .iconst 1, 1, 0, 0, 0), (18, .if_icmp .ne 7, 3, 25, 0, 0), (21, .iconst 1, 1, 0, 0, 0), (22, .goto 4, 3, 26, 0, 0), (25, .iconst 0, 1, 0, 0, 0), (26, .iadd, 1, 0, 0, 0), (27, .istore_n 1, 1, 0, 0, 0), (28, .iinc 2 1, 3, 0, 0, 0), (31, .goto (-27), 3, 4, 0, 0), (34, .iload_n 1, 1, 0, 0, 0), (35, .ireturn, 1, 0, 0, 0)]
def cu_147 : List (Nat × List Nat) := [(4, [0, 1, 2]), (26, [0, 2])]
def G_147 : tm_G := fun _ _ _ => none
noncomputable def F_147 : List Value → tm_M → Option tm_R := tm_m tm_sh none G_147 false cd_147 cu_147 24 3
theorem gg_147 : tm_Gg G_147 := fun _ _ _ _ h => by cases h
theorem gm_147 (l : Launch) : ∀ id as M r, G_147 id as M = some r → tm_MA tm_sh l (tm_mt id) as M r := fun _ _ _ _ h => by cases h
theorem gr_147 {as : List Value} {M : tm_M} {r : tm_R} (h : F_147 as M = some r) : tm_gr M r.2 := tm_m_gr gg_147 h
theorem ck_147 : tm_cdk (tm_mt 147).1.cls false tm_mt (tm_mt 147) false cd_147 := tm_cdk_of (LK := lk_RX11) (ix := [163]) lc_RX11 (by decide +kernel)
theorem con_147 (l : Launch) {as : List Value} {M : tm_M} {r : tm_R} (h : F_147 as M = some r) : tm_MA tm_sh l (tm_mt 147) as M r := tm_sound (t := tm_mt 147) tm_Sok_ok tm_CL_ok gg_147 (gm_147 l) (fun _ _ => ⟨rfl, rfl⟩) ck_147 (by decide +kernel) (fun h => by cases h) (fun _ _ _ _ => tm_nos_all (by decide +kernel)) h
def cd_148 : List tm_E := [(0, .iconst 0, 1, 0, 0, 0), (1, .istore_n 1, 1, 0, 0, 0), (2, .iload_n 1, 1, 0, 0, 0), (3, .bipush 6, 2, 0, 0, 0), (5, .if_icmp .ge 42, 3, 47, 0, 0), (8, .aload_n 0, 1, 0, 0, 0), (9, .getfield 89, 3, 11, 39, 2), (12, .iload_n 1, 1, 0, 0, 0), (13, .iaload, 1, 0, 0, 0), (14, .ifCond .lt 27, 3, 41, 0, 0), (17, .aload_n 0, 1, 0, 0, 0), (18, .getfield 49, 3, 11, 20, 2), (21, .bipush 12, 2, 0, 0, 0), (23, .aload_n 0, 1, 0, 0, 0), (24, .getfield 295, 3, 11, 21, 0), (27, .imul, 1, 0, 0, 0), (28, .aload_n 0, 1, 0, 0, 0), (29, .getfield 89, 3, 11, 39, 2), (32, .iload_n 1, 1, 0, 0, 0), (33, .iaload, 1, 0, 0, 0), (34, .iadd, 1, 0, 0, 0), (35, .baload, 1, 0, 0, 0), (36, .ifCond .eq 5, 3, 41, 0, 0), (39, .iconst 1, 1, 0, 0, 0), (40, .ireturn, 1, 0, 0, 0), (41, .iinc 1 1, 3, 0, 0, 0), (44, .goto (-42), 3, 2, 0, 0), (47, .iconst 0, 1, 0, 0, 0), (48, .ireturn, 1, 0, 0, 0)]
def cu_148 : List (Nat × List Nat) := [(2, [0, 1]), (41, [0, 1])]
def G_148 : tm_G := fun _ _ _ => none
noncomputable def F_148 : List Value → tm_M → Option tm_R := tm_m tm_sh none G_148 true cd_148 cu_148 30 2
theorem gg_148 : tm_Gg G_148 := fun _ _ _ _ h => by cases h
theorem gm_148 (l : Launch) : ∀ id as M r, G_148 id as M = some r → tm_MA tm_sh l (tm_mt id) as M r := fun _ _ _ _ h => by cases h
theorem gr_148 {as : List Value} {M : tm_M} {r : tm_R} (h : F_148 as M = some r) : tm_gr M r.2 := tm_m_gr gg_148 h
theorem ck_148 : tm_cdk (tm_mt 148).1.cls false tm_mt (tm_mt 148) true cd_148 := tm_cdk_of (LK := lk_RX11) (ix := [166, 122, 133, 166]) lc_RX11 (by decide +kernel)
theorem con_148 (l : Launch) {as : List Value} {M : tm_M} {r : tm_R} (h : F_148 as M = some r) : tm_MA tm_sh l (tm_mt 148) as M r := tm_sound (t := tm_mt 148) tm_Sok_ok tm_CL_ok gg_148 (gm_148 l) (fun _ _ => ⟨rfl, rfl⟩) ck_148 (by decide +kernel) (fun h => by cases h) (fun _ _ _ _ => tm_nos_all (by decide +kernel)) h
def cd_149 : List tm_E := [(0, .aload_n 0, 1, 0, 0, 0), (1, .getfield 62, 3, 11, 26, 2), (4, .iload_n 1, 1, 0, 0, 0), (5, .iaload, 1, 0, 0, 0), (6, .istore_n 2, 1, 0, 0, 0), (7, .aload_n 0, 1, 0, 0, 0), (8, .getfield 80, 3, 11, 36, 2), (11, .iload_n 2, 1, 0, 0, 0), (12, .iaload, 1, 0, 0, 0), (13, .iconst 1, 1, 0, 0, 0), (14, .if_icmp .ne 16, 3, 30, 0, 0), (17, .aload_n 0, 1, 0, 0, 0), (18, .getfield 89, 3, 11, 39, 2), (21, .iload_n 2, 1, 0, 0, 0), (22, .iaload, 1, 0, 0, 0), (23, .ifCond .ge 7, 3, 30, 0, 0), (26, .iconst 1, 1, 0, 0, 0), (27, .goto 4, 3, 31, 0, 0), (30, .iconst 0, 1, 0, 0, 0), (31, .istore_n 3, 1, 0, 0, 0), (32, .aload_n 0, 1, 0, 0, 0), (33, .getfield 68, 3, 11, 28, 2), (36, .iload_n 1, 1, 0, 0, 0), (37, .iaload, 1, 0, 0, 0), (38, .istore 4, 2, 0, 0, 0), (40, .aload_n 0, 1, 0, 0, 0), (41, .getfield 65, 3, 11, 27, 2), (44, .iload_n 1, 1, 0, 0, 0), (45, .iaload, 1, 0, 0, 0), (46, .tableswitch 242 0 2 #[26, 88, 121], 26, 0, 0, 0), (72, .aload_n 0, 1, 0, 0, 0), (73, .getfield 80, 3, 11, 36, 2), (76, .iload_n 2, 1, 0, 0, 0), (77, .iaload, 1, 0, 0, 0), (78, .ifCond .eq 5, 3, 83, 0, 0), (81, .iconst 1, 1, 0, 0, 0), (82, .ireturn, 1, 0, 0, 0), (83, .aload_n 0, 1, 0, 0, 0), (84, .invokevirtual 387, 3, 147, 0, 45), (87, .iconst 3, 1, 0, 0, 0), (88, .if_icmp .ne 5, 3, 93, 0, 0), (91, .iconst 2, 1, 0, 0, 0), (92, .ireturn, 1, 0, 0, 0), (93, .aload_n 0, 1, 0, 0, 0), (94, .getfield 391, 3, 11, 65, 0), (97, .iconst 1, 1, 0, 0, 0), (98, .if_icmp .eq 20, 3, 118, 0, 0), (101, .aload_n 0, 1, 0, 0, 0), (102, .getfield 391, 3, 11, 65, 0), (105, .iload 4, 2, 0, 0, 0), (107, .ifCond .ne 7, 3, 114, 0, 0), (110, .iconst 2, 1, 0, 0, 0), (111, .goto 4, 3, 115, 0, 0), (114, .iconst 3, 1, 0, 0, 0), (115, .if_icmp .ne 5, 3, 120, 0, 0), (118, .iconst 3, 1, 0, 0, 0), (119, .ireturn, 1, 0, 0, 0), (120, .aload_n 0, 1, 0, 0, 0), (121, .invokevirtual 394, 3, 148, 0, 45), (124, .ifCond .eq 8, 3, 132, 0, 0), (127, .bipush 6, 2, 0, 0, 0), (129, .goto 4, 3, 133, 0, 0), (132, .iconst 0, 1, 0, 0, 0), (133, .ireturn, 1, 0, 0, 0), (134, .iload_n 3, 1, 0, 0, 0), (135, .ifCond .ne 7, 3, 142, 0, 0), (138, .iconst 1, 1, 0, 0, 0), (139, .goto 27, 3, 166, 0, 0), (142, .aload_n 0, 1, 0, 0, 0), (143, .getfield 83, 3, 11, 37, 2), (146, .iload_n 2, 1, 0, 0, 0), (147, .iaload, 1, 0, 0, 0), (148, .iload 4, 2, 0, 0, 0), (150, .ifCond .ne 7, 3, 157, 0, 0), (153, .iconst 2, 1, 0, 0, 0), (154, .goto 4, 3, 158, 0, 0), (157, .iconst 1, 1, 0, 0, 0), (158, .if_icmp .ne 7, 3, 165, 0, 0), (161, .iconst 4, 1, 0, 0, 0), (162, .goto 4, 3, 166, 0, 0), (165, .iconst 0, 1, 0, 0, 0), (166, .ireturn, 1, 0, 0, 0), (167, .iload_n 3, 1, 0, 0, 0), (168, .ifCond .ne 5, 3, 173, 0, 0), (171, .iconst 1, 1, 0, 0, 0), (172, .ireturn, 1, 0, 0, 0), (173, .aload_n 0, 1, 0, 0, 0), (174, .iload 4, 2, 0, 0, 0), (176, .aload_n 0, 1, 0, 0, 0), (177, .getfield 71, 3, 11, 29, 2), (180, .iload_n 1, 1, 0, 0, 0), (181, .baload, 1, 0, 0, 0), (182, .invokevirtual 356, 3, 97, 2, 45), (185, .ifCond .eq 26, 3, 211, 0, 0), (188, .aload_n 0, 1, 0, 0, 0), (189, .iload 4, 2, 0, 0, 0), (191, .aload_n 0, 1, 0, 0, 0), (192, .getfield 71, 3, 11, 29, 2), (195, .iload_n 1, 1, 0, 0, 0), (196, .baload, 1, 0, 0, 0), (197, .invokevirtual 356, 3, 97, 2, 45), (200, .aload_n 0, 1, 0, 0, 0), (201, .getfield 83, 3, 11, 37, 2), (204, .iload_n 2, 1, 0, 0, 0), (205, .iaload, 1, 0, 0, 0), (206, .if_icmp .eq 5, 3, 211, 0, 0), (209, .iconst 5, 1, 0, 0, 0), (210, .ireturn, 1, 0, 0, 0), (211, .aload_n 0, 1, 0, 0, 0), (212, .getfield 40, 3, 11, 17, 2), (215, .bipush 12, 2, 0, 0, 0), (217, .aload_n 0, 1, 0, 0, 0), (218, .getfield 295, 3, 11, 21, 0), (221, .imul, 1, 0, 0, 0), (222, .iload 4, 2, 0, 0, 0), (224, .iadd, 1, 0, 0, 0), (225, .iaload, 1, 0, 0, 0), (226, .ifCond .lt 29, 3, 255, 0, 0), (229, .aload_n 0, 1, 0, 0, 0), (230, .getfield 40, 3, 11, 17, 2), (233, .bipush 12, 2, 0, 0, 0), (235, .aload_n 0, 1, 0, 0, 0), (236, .getfield 295, 3, 11, 21, 0), (239, .imul, 1, 0, 0, 0), (240, .iload 4, 2, 0, 0, 0), (242, .iadd, 1, 0, 0, 0), (243, .iaload, 1, 0, 0, 0), (244, .aload_n 0, 1, 0, 0, 0), (245, .getfield 86, 3, 11, 38, 2), (248, .iload_n 2, 1, 0, 0, 0), (249, .iaload, 1, 0, 0, 0), (250, .if_icmp .eq 5, 3, 255, 0, 0), (253, .iconst 5, 1, 0, 0, 0), (254, .ireturn, 1, 0, 0, 0), (255, .aload_n 0, 1, 0, 0, 0), (256, .getfield 49, 3, 11, 20, 2), (259, .bipush 12, 2, 0, 0, 0), (261, .aload_n 0, 1, 0, 0, 0), (262, .getfield 295, 3, 11, 21, 0), (265, .imul, 1, 0, 0, 0), (266, .iload 4, 2, 0, 0, 0), (268, .iadd, 1, 0, 0, 0), (269, .baload, 1, 0, 0, 0), (270, .ifCond .eq 16, 3, 286, 0, 0), (273, .aload_n 0, 1, 0, 0, 0), (274, .invokevirtual 387, 3, 147, 0, 45), (277, .iconst 1, 1, 0, 0, 0), (278, .if_icmp .le 8, 3, 286, 0, 0), (281, .bipush 6, 2, 0, 0, 0), (283, .goto 4, 3, 287, 0, 0), (286, .iconst 0, 1, 0, 0, 0), (287, .ireturn, 1, 0, 0, 0), (288, .aload_n 0, 1, 0, 0, 0), (289, .getfield 80, 3, 11, 36, 2), (292, .iload_n 2, 1, 0, 0, 0), (293, .iaload, 1, 0, 0, 0), (294, .ifCond .eq 7, 3, 301, 0, 0), (297, .iload_n 3, 1, 0, 0, 0), (298, .ifCond .eq 13, 3, 311, 0, 0), (301, .aload_n 0, 1, 0, 0, 0), (302, .getfield 98, 3, 11, 42, 2), (305, .iload 4, 2, 0, 0, 0), (307, .iaload, 1, 0, 0, 0), (308, .ifCond .lt 7, 3, 315, 0, 0), (311, .iconst 1, 1, 0, 0, 0), (312, .goto 4, 3, 316, 0, 0), (315, .iconst 0, 1, 0, 0, 0), (316, .ireturn, 1, 0, 0, 0)]
def cu_149 : List (Nat × List Nat) := [(30, [0, 1, 2]), (31, [0, 1, 2]), (87, [0, 4]), (115, [0]), (118, []), (124, []), (133, []), (158, []), (166, []), (185, [0, 1, 2, 4]), (200, [0, 2, 4]), (211, [0, 2, 4]), (255, [0, 4]), (277, []), (286, []), (287, []), (301, [0, 4]), (311, []), (316, [])]
noncomputable def G_149 : tm_G := fun id as M => if id = 147 then F_147 as M else if id = 148 then F_148 as M else if id = 97 then F_97 as M else none
noncomputable def F_149 : List Value → tm_M → Option tm_R := tm_m tm_sh none G_149 false cd_149 cu_149 169 5
theorem gg_149 : tm_Gg G_149 := by
  intro id as M r h
  unfold G_149 at h
  rcases tm_ite_e h with ⟨_, h⟩ | ⟨_, h⟩
  · exact gr_147 h
  rcases tm_ite_e h with ⟨_, h⟩ | ⟨_, h⟩
  · exact gr_148 h
  rcases tm_ite_e h with ⟨_, h⟩ | ⟨_, h⟩
  · exact gr_97 h
  cases h
theorem gm_149 (l : Launch) : ∀ id as M r, G_149 id as M = some r → tm_MA tm_sh l (tm_mt id) as M r := by
  intro id as M r h
  unfold G_149 at h
  rcases tm_ite_e h with ⟨rfl, h⟩ | ⟨_, h⟩
  · exact con_147 l h
  rcases tm_ite_e h with ⟨rfl, h⟩ | ⟨_, h⟩
  · exact con_148 l h
  rcases tm_ite_e h with ⟨rfl, h⟩ | ⟨_, h⟩
  · exact con_97 l h
  cases h
theorem gr_149 {as : List Value} {M : tm_M} {r : tm_R} (h : F_149 as M = some r) : tm_gr M r.2 := tm_m_gr gg_149 h
theorem ck_149 : tm_cdk (tm_mt 149).1.cls false tm_mt (tm_mt 149) false cd_149 := tm_cdk_of (LK := lk_RX11) (ix := [144, 163, 166, 147, 145, 163, 177, 178, 178, 179, 164, 146, 158, 146, 158, 164, 121, 133, 121, 133, 165, 122, 133, 177, 163, 170]) lc_RX11 (by decide +kernel)
theorem con_149 (l : Launch) {as : List Value} {M : tm_M} {r : tm_R} (h : F_149 as M = some r) : tm_MA tm_sh l (tm_mt 149) as M r := tm_sound (t := tm_mt 149) tm_Sok_ok tm_CL_ok gg_149 (gm_149 l) (fun _ _ => ⟨rfl, rfl⟩) ck_149 (by decide +kernel) (fun h => by cases h) (fun _ _ _ _ => tm_nos_all (by decide +kernel)) h
def cd_150 : List tm_E := [(0, .aload_n 0, 1, 0, 0, 0), (1, .getfield 381, 3, 11, 60, 0), (4, .sipush 200, 3, 0, 0, 0), (7, .if_icmp .ge 36, 3, 43, 0, 0), (10, .aload_n 0, 1, 0, 0, 0), (11, .getfield 122, 3, 11, 50, 2), (14, .aload_n 0, 1, 0, 0, 0), (15, .getfield 381, 3, 11, 60, 0), (18, .aload_n 0, 1, 0, 0, 0), (19, .getfield 384, 3, 11, 59, 0), (22, .iastore, 1, 0, 0, 0), (23, .aload_n 0, 1, 0, 0, 0), (24, .getfield 125, 3, 11, 51, 2), (27, .aload_n 0, 1, 0, 0, 0), (28, .getfield 381, 3, 11, 60, 0), (31, .iload_n 1, 1, 0, 0, 0), (32, .iastore, 1, 0, 0, 0), (33, .aload_n 0, 1, 0, 0, 0), (34, .getfield 128, 3, 11, 52, 2), (37, .aload_n 0, 1, 0, 0, 0), (38, .getfield 381, 3, 11, 60, 0), (41, .iload_n 2, 1, 0, 0, 0), (42, .iastore, 1, 0, 0, 0), (43, .aload_n 0, 1, 0, 0, 0), (44, .dup, 1, 0, 0, 0), (45, .getfield 381, 3, 11, 60, 0), (48, .iconst 1, 1, 0, 0, 0), (49, .iadd, 1, 0, 0, 0), (50, .putfield 381, 3, 11, 60, 0), (53, .return_, 1, 0, 0, 0)]
def cu_150 : List (Nat × List Nat) := [(43, [0])]
def G_150 : tm_G := fun _ _ _ => none
noncomputable def F_150 : List Value → tm_M → Option tm_R := tm_m tm_sh none G_150 false cd_150 cu_150 31 3
theorem gg_150 : tm_Gg G_150 := fun _ _ _ _ h => by cases h
theorem gm_150 (l : Launch) : ∀ id as M r, G_150 id as M = some r → tm_MA tm_sh l (tm_mt id) as M r := fun _ _ _ _ h => by cases h
theorem gr_150 {as : List Value} {M : tm_M} {r : tm_R} (h : F_150 as M = some r) : tm_gr M r.2 := tm_m_gr gg_150 h
theorem ck_150 : tm_cdk (tm_mt 150).1.cls false tm_mt (tm_mt 150) false cd_150 := tm_cdk_of (LK := lk_RX11) (ix := [180, 181, 180, 182, 183, 180, 184, 180, 180, 171]) lc_RX11 (by decide +kernel)
theorem con_150 (l : Launch) {as : List Value} {M : tm_M} {r : tm_R} (h : F_150 as M = some r) : tm_MA tm_sh l (tm_mt 150) as M r := tm_sound (t := tm_mt 150) tm_Sok_ok tm_CL_ok gg_150 (gm_150 l) (fun _ _ => ⟨rfl, rfl⟩) ck_150 (by decide +kernel) (fun h => by cases h) (fun _ _ _ _ => tm_nos_all (by decide +kernel)) h
def cd_151 : List tm_E := [(0, .aload_n 0, 1, 0, 0, 0), (1, .getfield 62, 3, 11, 26, 2), (4, .iload_n 1, 1, 0, 0, 0), (5, .iaload, 1, 0, 0, 0), (6, .istore_n 2, 1, 0, 0, 0), (7, .aload_n 0, 1, 0, 0, 0), (8, .getfield 68, 3, 11, 28, 2), (11, .iload_n 1, 1, 0, 0, 0), (12, .iaload, 1, 0, 0, 0), (13, .istore_n 3, 1, 0, 0, 0), (14, .aload_n 0, 1, 0, 0, 0), (15, .getfield 65, 3, 11, 27, 2), (18, .iload_n 1, 1, 0, 0, 0), (19, .iaload, 1, 0, 0, 0), (20, .tableswitch 109 0 2 #[28, 60, 70], 28, 0, 0, 0), (48, .aload_n 0, 1, 0, 0, 0), (49, .getfield 80, 3, 11, 36, 2), (52, .iload_n 2, 1, 0, 0, 0), (53, .iconst 1, 1, 0, 0, 0), (54, .iastore, 1, 0, 0, 0), (55, .aload_n 0, 1, 0, 0, 0), (56, .getfield 83, 3, 11, 37, 2), (59, .iload_n 2, 1, 0, 0, 0), (60, .iload_n 3, 1, 0, 0, 0), (61, .ifCond .ne 7, 3, 68, 0, 0), (64, .iconst 1, 1, 0, 0, 0), (65, .goto 4, 3, 69, 0, 0), (68, .iconst 2, 1, 0, 0, 0), (69, .iastore, 1, 0, 0, 0), (70, .aload_n 0, 1, 0, 0, 0), (71, .getfield 86, 3, 11, 38, 2), (74, .iload_n 2, 1, 0, 0, 0), (75, .iconst 0, 1, 0, 0, 0), (76, .iastore, 1, 0, 0, 0), (77, .goto 75, 3, 152, 0, 0), (80, .aload_n 0, 1, 0, 0, 0), (81, .getfield 80, 3, 11, 36, 2), (84, .iload_n 2, 1, 0, 0, 0), (85, .iconst 0, 1, 0, 0, 0), (86, .iastore, 1, 0, 0, 0), (87, .goto 65, 3, 152, 0, 0), (90, .aload_n 0, 1, 0, 0, 0), (91, .getfield 89, 3, 11, 39, 2), (94, .iload_n 2, 1, 0, 0, 0), (95, .iload_n 3, 1, 0, 0, 0), (96, .iastore, 1, 0, 0, 0), (97, .aload_n 0, 1, 0, 0, 0), (98, .getfield 143, 3, 11, 57, 2), (101, .iload_n 2, 1, 0, 0, 0), (102, .aload_n 0, 1, 0, 0, 0), (103, .getfield 71, 3, 11, 29, 2), (106, .iload_n 1, 1, 0, 0, 0), (107, .baload, 1, 0, 0, 0), (108, .bastore, 1, 0, 0, 0), (109, .aload_n 0, 1, 0, 0, 0), (110, .getfield 92, 3, 11, 40, 2), (113, .iload_n 2, 1, 0, 0, 0), (114, .aload_n 0, 1, 0, 0, 0), (115, .getfield 384, 3, 11, 59, 0), (118, .iastore, 1, 0, 0, 0), (119, .aload_n 0, 1, 0, 0, 0), (120, .getfield 149, 3, 11, 67, 2), (123, .iload_n 2, 1, 0, 0, 0), (124, .iconst 0, 1, 0, 0, 0), (125, .iastore, 1, 0, 0, 0), (126, .goto 26, 3, 152, 0, 0), (129, .aload_n 0, 1, 0, 0, 0), (130, .getfield 80, 3, 11, 36, 2), (133, .iload_n 2, 1, 0, 0, 0), (134, .iconst 4, 1, 0, 0, 0), (135, .iload_n 3, 1, 0, 0, 0), (136, .iadd, 1, 0, 0, 0), (137, .iastore, 1, 0, 0, 0), (138, .aload_n 0, 1, 0, 0, 0), (139, .getfield 98, 3, 11, 42, 2), (142, .iload_n 3, 1, 0, 0, 0), (143, .iload_n 2, 1, 0, 0, 0), (144, .iastore, 1, 0, 0, 0), (145, .aload_n 0, 1, 0, 0, 0), (146, .getfield 95, 3, 11, 41, 2), (149, .iload_n 3, 1, 0, 0, 0), (150, .iconst 0, 1, 0, 0, 0), (151, .iastore, 1, 0, 0, 0), (152, .return_, 1, 0, 0, 0)]
def cu_151 : List (Nat × List Nat) := [(69, [0, 2]), (152, [])]
def G_151 : tm_G := fun _ _ _ => none
noncomputable def F_151 : List Value → tm_M → Option tm_R := tm_m tm_sh none G_151 false cd_151 cu_151 85 4
theorem gg_151 : tm_Gg G_151 := fun _ _ _ _ h => by cases h
theorem gm_151 (l : Launch) : ∀ id as M r, G_151 id as M = some r → tm_MA tm_sh l (tm_mt id) as M r := fun _ _ _ _ h => by cases h
theorem gr_151 {as : List Value} {M : tm_M} {r : tm_R} (h : F_151 as M = some r) : tm_gr M r.2 := tm_m_gr gg_151 h
theorem ck_151 : tm_cdk (tm_mt 151).1.cls false tm_mt (tm_mt 151) false cd_151 := tm_cdk_of (LK := lk_RX11) (ix := [144, 147, 145, 163, 164, 165, 163, 166, 185, 146, 186, 182, 167, 163, 170, 187]) lc_RX11 (by decide +kernel)
theorem con_151 (l : Launch) {as : List Value} {M : tm_M} {r : tm_R} (h : F_151 as M = some r) : tm_MA tm_sh l (tm_mt 151) as M r := tm_sound (t := tm_mt 151) tm_Sok_ok tm_CL_ok gg_151 (gm_151 l) (fun _ _ => ⟨rfl, rfl⟩) ck_151 (by decide +kernel) (fun h => by cases h) (fun _ _ _ _ => tm_nos_all (by decide +kernel)) h
def cd_152 : List tm_E := [(0, .aload_n 0, 1, 0, 0, 0), (1, .getfield 104, 3, 11, 44, 2), (4, .aload_n 0, 1, 0, 0, 0), (5, .getfield 384, 3, 11, 59, 0), (8, .iconst 4, 1, 0, 0, 0), (9, .iastore, 1, 0, 0, 0), (10, .aload_n 0, 1, 0, 0, 0), (11, .dup, 1, 0, 0, 0), (12, .getfield 415, 3, 11, 63, 0), (15, .iconst 1, 1, 0, 0, 0), (16, .iadd, 1, 0, 0, 0), (17, .putfield 415, 3, 11, 63, 0), (20, .aload_n 0, 1, 0, 0, 0), (21, .dup, 1, 0, 0, 0), (22, .getfield 403, 3, 11, 66, 0), (25, .iconst 1, 1, 0, 0, 0), (26, .isub, 1, 0, 0, 0), (27, .putfield 403, 3, 11, 66, 0), (30, .iconst 0, 1, 0, 0, 0), (31, .istore_n 1, 1, 0, 0, 0), (32, .iload_n 1, 1, 0, 0, 0), (33, .bipush 6, 2, 0, 0, 0), (35, .if_icmp .ge 52, 3, 87, 0, 0), (38, .iconst 0, 1, 0, 0, 0), (39, .istore_n 2, 1, 0, 0, 0), (40, .iload_n 2, 1, 0, 0, 0), (41, .iconst 4, 1, 0, 0, 0), (42, .if_icmp .ge 39, 3, 81, 0, 0), (45, .aload_n 0, 1, 0, 0, 0), (46, .getfield 80, 3, 11, 36, 2), (49, .iload_n 1, 1, 0, 0, 0), (50, .iaload, 1, 0, 0, 0), (51, .iconst 1, 1, 0, 0, 0), (52, .if_icmp .ne 29, 3, 81, 0, 0), (55, .aload_n 0, 1, 0, 0, 0), (56, .getfield 119, 3, 11, 49, 2), (59, .sipush 800, 3, 0, 0, 0), (62, .iload_n 1, 1, 0, 0, 0), (63, .imul, 1, 0, 0, 0), (64, .iconst 4, 1, 0, 0, 0), (65, .aload_n 0, 1, 0, 0, 0), (66, .getfield 384, 3, 11, 59, 0), (69, .imul, 1, 0, 0, 0), (70, .iadd, 1, 0, 0, 0), (71, .iload_n 2, 1, 0, 0, 0), (72, .iadd, 1, 0, 0, 0), (73, .iconst 0, 1, 0, 0, 0), (74, .iastore, 1, 0, 0, 0), (75, .iinc 2 1, 3, 0, 0, 0), (78, .goto (-38), 3, 40, 0, 0), (81, .iinc 1 1, 3, 0, 0, 0), (84, .goto (-52), 3, 32, 0, 0), (87, .return_, 1, 0, 0, 0)]
def cu_152 : List (Nat × List Nat) := [(32, [0, 1]), (40, [0, 1, 2]), (81, [0, 1])]
def G_152 : tm_G := fun _ _ _ => none
noncomputable def F_152 : List Value → tm_M → Option tm_R := tm_m tm_sh none G_152 false cd_152 cu_152 54 3
theorem gg_152 : tm_Gg G_152 := fun _ _ _ _ h => by cases h
theorem gm_152 (l : Launch) : ∀ id as M r, G_152 id as M = some r → tm_MA tm_sh l (tm_mt id) as M r := fun _ _ _ _ h => by cases h
theorem gr_152 {as : List Value} {M : tm_M} {r : tm_R} (h : F_152 as M = some r) : tm_gr M r.2 := tm_m_gr gg_152 h
theorem ck_152 : tm_cdk (tm_mt 152).1.cls false tm_mt (tm_mt 152) false cd_152 := tm_cdk_of (LK := lk_RX11) (ix := [188, 182, 189, 174, 190, 175, 163, 169, 182]) lc_RX11 (by decide +kernel)
theorem con_152 (l : Launch) {as : List Value} {M : tm_M} {r : tm_R} (h : F_152 as M = some r) : tm_MA tm_sh l (tm_mt 152) as M r := tm_sound (t := tm_mt 152) tm_Sok_ok tm_CL_ok gg_152 (gm_152 l) (fun _ _ => ⟨rfl, rfl⟩) ck_152 (by decide +kernel) (fun h => by cases h) (fun _ _ _ _ => tm_nos_all (by decide +kernel)) h
def cd_153 : List tm_E := [(0, .aload_n 0, 1, 0, 0, 0), (1, .aload_n 0, 1, 0, 0, 0), (2, .getfield 89, 3, 11, 39, 2), (5, .iload_n 1, 1, 0, 0, 0), (6, .iaload, 1, 0, 0, 0), (7, .aload_n 0, 1, 0, 0, 0), (8, .getfield 149, 3, 11, 67, 2), (11, .iload_n 1, 1, 0, 0, 0), (12, .iaload, 1, 0, 0, 0), (13, .invokevirtual 362, 3, 100, 2, 45), (16, .ireturn, 1, 0, 0, 0)]
def cu_153 : List (Nat × List Nat) := [(16, [])]
noncomputable def G_153 : tm_G := fun id as M => if id = 100 then F_100 as M else none
noncomputable def F_153 : List Value → tm_M → Option tm_R := tm_m tm_sh none G_153 false cd_153 cu_153 12 2
theorem gg_153 : tm_Gg G_153 := by
  intro id as M r h
  unfold G_153 at h
  rcases tm_ite_e h with ⟨_, h⟩ | ⟨_, h⟩
  · exact gr_100 h
  cases h
theorem gm_153 (l : Launch) : ∀ id as M r, G_153 id as M = some r → tm_MA tm_sh l (tm_mt id) as M r := by
  intro id as M r h
  unfold G_153 at h
  rcases tm_ite_e h with ⟨rfl, h⟩ | ⟨_, h⟩
  · exact con_100 l h
  cases h
theorem gr_153 {as : List Value} {M : tm_M} {r : tm_R} (h : F_153 as M = some r) : tm_gr M r.2 := tm_m_gr gg_153 h
theorem ck_153 : tm_cdk (tm_mt 153).1.cls false tm_mt (tm_mt 153) false cd_153 := tm_cdk_of (LK := lk_RX11) (ix := [166, 167, 160]) lc_RX11 (by decide +kernel)
theorem con_153 (l : Launch) {as : List Value} {M : tm_M} {r : tm_R} (h : F_153 as M = some r) : tm_MA tm_sh l (tm_mt 153) as M r := tm_sound (t := tm_mt 153) tm_Sok_ok tm_CL_ok gg_153 (gm_153 l) (fun _ _ => ⟨rfl, rfl⟩) ck_153 (by decide +kernel) (fun h => by cases h) (fun _ _ _ _ => tm_nos_all (by decide +kernel)) h
def cd_154 : List tm_E := [(0, .aload_n 0, 1, 0, 0, 0), (1, .getfield 104, 3, 11, 44, 2), (4, .aload_n 0, 1, 0, 0, 0), (5, .getfield 384, 3, 11, 59, 0), (8, .iconst 0, 1, 0, 0, 0), (9, .iastore, 1, 0, 0, 0), (10, .iconst (-1), 1, 0, 0, 0), (11, .istore_n 1, 1, 0, 0, 0), (12, .iconst 0, 1, 0, 0, 0), (13, .istore_n 2, 1, 0, 0, 0), (14, .iconst 0, 1, 0, 0, 0), (15, .istore_n 3, 1, 0, 0, 0), (16, .iload_n 3, 1, 0, 0, 0), (17, .bipush 6, 2, 0, 0, 0), (19, .if_icmp .ge 58, 3, 77, 0, 0), (22, .aload_n 0, 1, 0, 0, 0), (23, .getfield 89, 3, 11, 39, 2), (26, .iload_n 3, 1, 0, 0, 0), (27, .iaload, 1, 0, 0, 0), (28, .ifCond .ge 6, 3, 34, 0, 0), (31, .goto 40, 3, 71, 0, 0), (34, .iload_n 2, 1, 0, 0, 0), (35, .ifCond .ne 20, 3, 55, 0, 0), (38, .iload_n 1, 1, 0, 0, 0), (39, .ifCond .lt 20, 3, 59, 0, 0), (42, .aload_n 0, 1, 0, 0, 0), (43, .iload_n 3, 1, 0, 0, 0), (44, .invokevirtual 397, 3, 153, 1, 45), (47, .aload_n 0, 1, 0, 0, 0), (48, .iload_n 1, 1, 0, 0, 0), (49, .invokevirtual 397, 3, 153, 1, 45), (52, .if_icmp .eq 7, 3, 59, 0, 0), (55, .iconst 1, 1, 0, 0, 0), (56, .goto 4, 3, 60, 0, 0), (59, .iconst 0, 1, 0, 0, 0), (60, .istore_n 2, 1, 0, 0, 0), (61, .iload_n 1, 1, 0, 0, 0), (62, .ifCond .ge 7, 3, 69, 0, 0), (65, .iload_n 3, 1, 0, 0, 0), (66, .goto 4, 3, 70, 0, 0), (69, .iload_n 1, 1, 0, 0, 0), (70, .istore_n 1, 1, 0, 0, 0), (71, .iinc 3 1, 3, 0, 0, 0), (74, .goto (-58), 3, 16, 0, 0), (77, .iload_n 1, 1, 0, 0, 0), (78, .ifCond .lt 17, 3, 95, 0, 0), (81, .aload_n 0, 1, 0, 0, 0), (82, .getfield 104, 3, 11, 44, 2), (85, .aload_n 0, 1, 0, 0, 0), (86, .getfield 384, 3, 11, 59, 0), (89, .aload_n 0, 1, 0, 0, 0), (90, .iload_n 1, 1, 0, 0, 0), (91, .invokevirtual 397, 3, 153, 1, 45), (94, .iastore, 1, 0, 0, 0), (95, .iload_n 2, 1, 0, 0, 0), (96, .ifCond .eq 10, 3, 106, 0, 0), (99, .aload_n 0, 1, 0, 0, 0), (100, .bipush 7, 2, 0, 0, 0), (102, .iload_n 1, 1, 0, 0, 0), (103, .invokevirtual 400, 3, 150, 2, 44), (106, .iload_n 2, 1, 0, 0, 0), (107, .ireturn, 1, 0, 0, 0)]
def cu_154 : List (Nat × List Nat) := [(16, [0, 1, 2, 3]), (47, [0, 1, 3]), (52, [0, 1, 3]), (55, [0, 1, 3]), (59, [0, 1, 3]), (60, [0, 1, 3]), (70, [0, 2, 3]), (71, [0, 1, 2, 3]), (94, [0, 1, 2]), (95, [0, 1, 2]), (106, [2])]
noncomputable def G_154 : tm_G := fun id as M => if id = 153 then F_153 as M else if id = 150 then F_150 as M else none
noncomputable def F_154 : List Value → tm_M → Option tm_R := tm_m tm_sh none G_154 true cd_154 cu_154 63 4
theorem gg_154 : tm_Gg G_154 := by
  intro id as M r h
  unfold G_154 at h
  rcases tm_ite_e h with ⟨_, h⟩ | ⟨_, h⟩
  · exact gr_153 h
  rcases tm_ite_e h with ⟨_, h⟩ | ⟨_, h⟩
  · exact gr_150 h
  cases h
theorem gm_154 (l : Launch) : ∀ id as M r, G_154 id as M = some r → tm_MA tm_sh l (tm_mt id) as M r := by
  intro id as M r h
  unfold G_154 at h
  rcases tm_ite_e h with ⟨rfl, h⟩ | ⟨_, h⟩
  · exact con_153 l h
  rcases tm_ite_e h with ⟨rfl, h⟩ | ⟨_, h⟩
  · exact con_150 l h
  cases h
theorem gr_154 {as : List Value} {M : tm_M} {r : tm_R} (h : F_154 as M = some r) : tm_gr M r.2 := tm_m_gr gg_154 h
theorem ck_154 : tm_cdk (tm_mt 154).1.cls false tm_mt (tm_mt 154) true cd_154 := tm_cdk_of (LK := lk_RX11) (ix := [188, 182, 166, 191, 191, 188, 182, 191, 192]) lc_RX11 (by decide +kernel)
theorem con_154 (l : Launch) {as : List Value} {M : tm_M} {r : tm_R} (h : F_154 as M = some r) : tm_MA tm_sh l (tm_mt 154) as M r := tm_sound (t := tm_mt 154) tm_Sok_ok tm_CL_ok gg_154 (gm_154 l) (fun _ _ => ⟨rfl, rfl⟩) ck_154 (by decide +kernel) (fun h => by cases h) (fun _ _ _ _ => tm_nos_all (by decide +kernel)) h
def cd_155 : List tm_E := [(0, .iconst 0, 1, 0, 0, 0), (1, .istore_n 1, 1, 0, 0, 0), (2, .iload_n 1, 1, 0, 0, 0), (3, .bipush 6, 2, 0, 0, 0), (5, .if_icmp .ge 133, 3, 138, 0, 0), (8, .aload_n 0, 1, 0, 0, 0), (9, .getfield 80, 3, 11, 36, 2), (12, .iload_n 1, 1, 0, 0, 0), (13, .iaload, 1, 0, 0, 0), (14, .iconst 1, 1, 0, 0, 0), (15, .if_icmp .eq 6, 3, 21, 0, 0), (18, .goto 114, 3, 132, 0, 0), (21, .aload_n 0, 1, 0, 0, 0), (22, .getfield 83, 3, 11, 37, 2), (25, .iload_n 1, 1, 0, 0, 0), (26, .iaload, 1, 0, 0, 0), (27, .iconst 1, 1, 0, 0, 0), (28, .if_icmp .ne 7, 3, 35, 0, 0), (31, .iconst 2, 1, 0, 0, 0), (32, .goto 4, 3, 36, 0, 0), (35, .iconst 1, 1, 0, 0, 0), (36, .istore_n 2, 1, 0, 0, 0), (37, .iconst 0, 1, 0, 0, 0), (38, .istore_n 3, 1, 0, 0, 0), (39, .iload_n 3, 1, 0, 0, 0), (40, .iconst 4, 1, 0, 0, 0), (41, .if_icmp .ge 91, 3, 132, 0, 0), (44, .aload_n 0, 1, 0, 0, 0), (45, .getfield 89, 3, 11, 39, 2), (48, .iload_n 1, 1, 0, 0, 0), (49, .iaload, 1, 0, 0, 0), (50, .ifCond .lt 32, 3, 82, 0, 0), (53, .aload_n 0, 1, 0, 0, 0), (54, .aload_n 0, 1, 0, 0, 0), (55, .getfield 89, 3, 11, 39, 2), (58, .iload_n 1, 1, 0, 0, 0), (59, .iaload, 1, 0, 0, 0), (60, .aload_n 0, 1, 0, 0, 0), (61, .getfield 143, 3, 11, 57, 2), (64, .iload_n 1, 1, 0, 0, 0), (65, .baload, 1, 0, 0, 0), (66, .iconst 4, 1, 0, 0, 0), (67, .aload_n 0, 1, 0, 0, 0), (68, .getfield 149, 3, 11, 67, 2), (71, .iload_n 1, 1, 0, 0, 0), (72, .iaload, 1, 0, 0, 0), (73, .imul, 1, 0, 0, 0), (74, .iload_n 3, 1, 0, 0, 0), (75, .iadd, 1, 0, 0, 0), (76, .invokevirtual 345, 3, 98, 3, 45), (79, .goto 24, 3, 103, 0, 0), (82, .iload_n 3, 1, 0, 0, 0), (83, .iconst 1, 1, 0, 0, 0), (84, .if_icmp .ne 7, 3, 91, 0, 0), (87, .iload_n 2, 1, 0, 0, 0), (88, .goto 15, 3, 103, 0, 0), (91, .iload_n 3, 1, 0, 0, 0), (92, .iconst 3, 1, 0, 0, 0), (93, .if_icmp .ne 9, 3, 102, 0, 0), (96, .iconst 3, 1, 0, 0, 0), (97, .iload_n 2, 1, 0, 0, 0), (98, .isub, 1, 0, 0, 0), (99, .goto 4, 3, 103, 0, 0), (102, .iconst 0, 1, 0, 0, 0), (103, .istore 4, 2, 0, 0, 0), (105, .aload_n 0, 1, 0, 0, 0), (106, .getfield 119, 3, 11, 49, 2), (109, .sipush 800, 3, 0, 0, 0), (112, .iload_n 1, 1, 0, 0, 0), (113, .imul, 1, 0, 0, 0), (114, .iconst 4, 1, 0, 0, 0), (115, .aload_n 0, 1, 0, 0, 0), (116, .getfield 384, 3, 11, 59, 0), (119, .imul, 1, 0, 0, 0), (120, .iadd, 1, 0, 0, 0), (121, .iload_n 3, 1, 0, 0, 0), (122, .iadd, 1, 0, 0, 0), (123, .iload 4, 2, 0, 0, 0), (125, .iastore, 1, 0, 0, 0), (126, .iinc 3 1, 3, 0, 0, 0), (129, .goto (-90), 3, 39, 0, 0), (132, .iinc 1 1, 3, 0, 0, 0), (135, .goto (-133), 3, 2, 0, 0), (138, .return_, 1, 0, 0, 0)]
def cu_155 : List (Nat × List Nat) := [(2, [0, 1]), (36, [0, 1]), (39, [0, 1, 2, 3]), (79, [0, 1, 2, 3]), (103, [0, 1, 2, 3]), (132, [0, 1])]
noncomputable def G_155 : tm_G := fun id as M => if id = 98 then F_98 as M else none
noncomputable def F_155 : List Value → tm_M → Option tm_R := tm_m tm_sh none G_155 false cd_155 cu_155 85 5
theorem gg_155 : tm_Gg G_155 := by
  intro id as M r h
  unfold G_155 at h
  rcases tm_ite_e h with ⟨_, h⟩ | ⟨_, h⟩
  · exact gr_98 h
  cases h
theorem gm_155 (l : Launch) : ∀ id as M r, G_155 id as M = some r → tm_MA tm_sh l (tm_mt id) as M r := by
  intro id as M r h
  unfold G_155 at h
  rcases tm_ite_e h with ⟨rfl, h⟩ | ⟨_, h⟩
  · exact con_98 l h
  cases h
theorem gr_155 {as : List Value} {M : tm_M} {r : tm_R} (h : F_155 as M = some r) : tm_gr M r.2 := tm_m_gr gg_155 h
theorem ck_155 : tm_cdk (tm_mt 155).1.cls false tm_mt (tm_mt 155) false cd_155 := tm_cdk_of (LK := lk_RX11) (ix := [163, 164, 166, 166, 185, 167, 155, 169, 182]) lc_RX11 (by decide +kernel)
theorem con_155 (l : Launch) {as : List Value} {M : tm_M} {r : tm_R} (h : F_155 as M = some r) : tm_MA tm_sh l (tm_mt 155) as M r := tm_sound (t := tm_mt 155) tm_Sok_ok tm_CL_ok gg_155 (gm_155 l) (fun _ _ => ⟨rfl, rfl⟩) ck_155 (by decide +kernel) (fun h => by cases h) (fun _ _ _ _ => tm_nos_all (by decide +kernel)) h
def cd_156 : List tm_E := [(0, .aload_n 0, 1, 0, 0, 0), (1, .getfield 104, 3, 11, 44, 2), (4, .aload_n 0, 1, 0, 0, 0), (5, .getfield 384, 3, 11, 59, 0), (8, .iaload, 1, 0, 0, 0), (9, .ifCond .ne 5, 3, 14, 0, 0), (12, .iconst 0, 1, 0, 0, 0), (13, .ireturn, 1, 0, 0, 0), (14, .iconst (-1), 1, 0, 0, 0), (15, .istore_n 1, 1, 0, 0, 0), (16, .iconst 0, 1, 0, 0, 0), (17, .istore_n 2, 1, 0, 0, 0), (18, .iload_n 2, 1, 0, 0, 0), (19, .iconst 2, 1, 0, 0, 0), (20, .if_icmp .ge 39, 3, 59, 0, 0), (23, .aload_n 0, 1, 0, 0, 0), (24, .getfield 98, 3, 11, 42, 2), (27, .iload_n 2, 1, 0, 0, 0), (28, .iaload, 1, 0, 0, 0), (29, .ifCond .lt 24, 3, 53, 0, 0), (32, .iload_n 1, 1, 0, 0, 0), (33, .ifCond .lt 13, 3, 46, 0, 0), (36, .aload_n 0, 1, 0, 0, 0), (37, .getfield 98, 3, 11, 42, 2), (40, .iload_n 2, 1, 0, 0, 0), (41, .iaload, 1, 0, 0, 0), (42, .iload_n 1, 1, 0, 0, 0), (43, .if_icmp .ge 10, 3, 53, 0, 0), (46, .aload_n 0, 1, 0, 0, 0), (47, .getfield 98, 3, 11, 42, 2), (50, .iload_n 2, 1, 0, 0, 0), (51, .iaload, 1, 0, 0, 0), (52, .istore_n 1, 1, 0, 0, 0), (53, .iinc 2 1, 3, 0, 0, 0), (56, .goto (-38), 3, 18, 0, 0), (59, .iload_n 1, 1, 0, 0, 0), (60, .ifCond .lt 10, 3, 70, 0, 0), (63, .aload_n 0, 1, 0, 0, 0), (64, .bipush 8, 2, 0, 0, 0), (66, .iload_n 1, 1, 0, 0, 0), (67, .invokevirtual 400, 3, 150, 2, 44), (70, .iload_n 1, 1, 0, 0, 0), (71, .ifCond .lt 7, 3, 78, 0, 0), (74, .iconst 1, 1, 0, 0, 0), (75, .goto 4, 3, 79, 0, 0), (78, .iconst 0, 1, 0, 0, 0), (79, .ireturn, 1, 0, 0, 0)]
def cu_156 : List (Nat × List Nat) := [(18, [0, 1, 2]), (46, [0, 2]), (53, [0, 1, 2]), (70, [1]), (79, [])]
noncomputable def G_156 : tm_G := fun id as M => if id = 150 then F_150 as M else none
noncomputable def F_156 : List Value → tm_M → Option tm_R := tm_m tm_sh none G_156 true cd_156 cu_156 48 3
theorem gg_156 : tm_Gg G_156 := by
  intro id as M r h
  unfold G_156 at h
  rcases tm_ite_e h with ⟨_, h⟩ | ⟨_, h⟩
  · exact gr_150 h
  cases h
theorem gm_156 (l : Launch) : ∀ id as M r, G_156 id as M = some r → tm_MA tm_sh l (tm_mt id) as M r := by
  intro id as M r h
  unfold G_156 at h
  rcases tm_ite_e h with ⟨rfl, h⟩ | ⟨_, h⟩
  · exact con_150 l h
  cases h
theorem gr_156 {as : List Value} {M : tm_M} {r : tm_R} (h : F_156 as M = some r) : tm_gr M r.2 := tm_m_gr gg_156 h
theorem ck_156 : tm_cdk (tm_mt 156).1.cls false tm_mt (tm_mt 156) true cd_156 := tm_cdk_of (LK := lk_RX11) (ix := [188, 182, 170, 170, 170, 192]) lc_RX11 (by decide +kernel)
theorem con_156 (l : Launch) {as : List Value} {M : tm_M} {r : tm_R} (h : F_156 as M = some r) : tm_MA tm_sh l (tm_mt 156) as M r := tm_sound (t := tm_mt 156) tm_Sok_ok tm_CL_ok gg_156 (gm_156 l) (fun _ _ => ⟨rfl, rfl⟩) ck_156 (by decide +kernel) (fun h => by cases h) (fun _ _ _ _ => tm_nos_all (by decide +kernel)) h
def cd_157 : List tm_E := [(0, .iconst 0, 1, 0, 0, 0), (1, .istore_n 1, 1, 0, 0, 0), (2, .iconst 0, 1, 0, 0, 0), (3, .istore_n 2, 1, 0, 0, 0), (4, .iload_n 2, 1, 0, 0, 0), (5, .bipush 6, 2, 0, 0, 0), (7, .if_icmp .ge 111, 3, 118, 0, 0), (10, .iconst 0, 1, 0, 0, 0), (11, .istore_n 3, 1, 0, 0, 0), (12, .iconst 0, 1, 0, 0, 0), (13, .istore 4, 2, 0, 0, 0), (15, .iload 4, 2, 0, 0, 0), (17, .iconst 4, 1, 0, 0, 0), (18, .if_icmp .ge 69, 3, 87, 0, 0), (21, .iload_n 3, 1, 0, 0, 0), (22, .ifCond .ne 53, 3, 75, 0, 0), (25, .aload_n 0, 1, 0, 0, 0), (26, .getfield 80, 3, 11, 36, 2), (29, .iload_n 2, 1, 0, 0, 0), (30, .iaload, 1, 0, 0, 0), (31, .iconst 1, 1, 0, 0, 0), (32, .if_icmp .ne 47, 3, 79, 0, 0), (35, .aload_n 0, 1, 0, 0, 0), (36, .getfield 119, 3, 11, 49, 2), (39, .sipush 800, 3, 0, 0, 0), (42, .iload_n 2, 1, 0, 0, 0), (43, .imul, 1, 0, 0, 0), (44, .iconst 4, 1, 0, 0, 0), (45, .aload_n 0, 1, 0, 0, 0), (46, .getfield 384, 3, 11, 59, 0), (49, .imul, 1, 0, 0, 0), (50, .iadd, 1, 0, 0, 0), (51, .iload 4, 2, 0, 0, 0), (53, .iadd, 1, 0, 0, 0), (54, .iaload, 1, 0, 0, 0), (55, .ifCond .eq 24, 3, 79, 0, 0), (58, .aload_n 0, 1, 0, 0, 0), (59, .getfield 104, 3, 11, 44, 2), (62, .aload_n 0, 1, 0, 0, 0), (63, .getfield 384, 3, 11, 59, 0), (66, .iaload, 1, 0, 0, 0), (67, .iload 4, 2, 0, 0, 0), (69, .invokestatic 365, 3, 105, 2, 1), (72, .ifCond .eq 7, 3, 79, 0, 0), (75, .iconst 1, 1, 0, 0, 0), (76, .goto 4, 3, 80, 0, 0), (79, .iconst 0, 1, 0, 0, 0), (80, .istore_n 3, 1, 0, 0, 0), (81, .iinc 4 1, 3, 0, 0, 0), (84, .goto (-69), 3, 15, 0, 0), (87, .iload_n 3, 1, 0, 0, 0), (88, .ifCond .eq 10, 3, 98, 0, 0), (91, .aload_n 0, 1, 0, 0, 0), (92, .bipush 9, 2, 0, 0, 0), (94, .iload_n 2, 1, 0, 0, 0), (95, .invokevirtual 400, 3, 150, 2, 44), (98, .iload_n 1, 1, 0, 0, 0), (99, .ifCond .ne 7, 3, 106, 0, 0), (102, .iload_n 3, 1, 0, 0, 0), (103, .ifCond .eq 7, 3, 110, 0, 0), (106, .iconst 1, 1, 0, 0, 0), (107, .goto 4, 3, 111, 0, 0), (110, .iconst 0, 1, 0, 0, 0), (111, .istore_n 1, 1, 0, 0, 0), (112, .iinc 2 1, 3, 0, 0, 0), (115, .goto (-111), 3, 4, 0, 0), (118, .iload_n 1, 1, 0, 0, 0), (119, .ireturn, 1, 0, 0, 0)]
def cu_157 : List (Nat × List Nat) := [(4, [0, 1, 2]), (15, [0, 1, 2, 3, 4]), (72, [0, 1, 2, 4]), (75, [0, 1, 2, 4]), (79, [0, 1, 2, 4]), (80, [0, 1, 2, 4]), (98, [0, 1, 2, 3]), (106, [0, 2]), (111, [0, 2])]
noncomputable def G_157 : tm_G := fun id as M => if id = 105 then F_105 as M else if id = 150 then F_150 as M else none
noncomputable def F_157 : List Value → tm_M → Option tm_R := tm_m tm_sh none G_157 true cd_157 cu_157 69 5
theorem gg_157 : tm_Gg G_157 := by
  intro id as M r h
  unfold G_157 at h
  rcases tm_ite_e h with ⟨_, h⟩ | ⟨_, h⟩
  · exact gr_105 h
  rcases tm_ite_e h with ⟨_, h⟩ | ⟨_, h⟩
  · exact gr_150 h
  cases h
theorem gm_157 (l : Launch) : ∀ id as M r, G_157 id as M = some r → tm_MA tm_sh l (tm_mt id) as M r := by
  intro id as M r h
  unfold G_157 at h
  rcases tm_ite_e h with ⟨rfl, h⟩ | ⟨_, h⟩
  · exact con_105 l h
  rcases tm_ite_e h with ⟨rfl, h⟩ | ⟨_, h⟩
  · exact con_150 l h
  cases h
theorem gr_157 {as : List Value} {M : tm_M} {r : tm_R} (h : F_157 as M = some r) : tm_gr M r.2 := tm_m_gr gg_157 h
theorem ck_157 : tm_cdk (tm_mt 157).1.cls false tm_mt (tm_mt 157) true cd_157 := tm_cdk_of (LK := lk_RX11) (ix := [163, 169, 182, 188, 182, 161, 192]) lc_RX11 (by decide +kernel)
theorem con_157 (l : Launch) {as : List Value} {M : tm_M} {r : tm_R} (h : F_157 as M = some r) : tm_MA tm_sh l (tm_mt 157) as M r := tm_sound (t := tm_mt 157) tm_Sok_ok tm_CL_ok gg_157 (gm_157 l) (fun _ _ => ⟨rfl, rfl⟩) ck_157 (by decide +kernel) (fun h => by cases h) (fun _ _ _ _ => tm_nos_all (by decide +kernel)) h
def cd_158 : List tm_E := [(0, .iconst 0, 1, 0, 0, 0), (1, .istore_n 1, 1, 0, 0, 0), (2, .iload_n 1, 1, 0, 0, 0), (3, .bipush 6, 2, 0, 0, 0), (5, .if_icmp .ge 33, 3, 38, 0, 0), (8, .aload_n 0, 1, 0, 0, 0), (9, .getfield 89, 3, 11, 39, 2), (12, .iload_n 1, 1, 0, 0, 0), (13, .iconst (-1), 1, 0, 0, 0), (14, .iastore, 1, 0, 0, 0), (15, .aload_n 0, 1, 0, 0, 0), (16, .getfield 80, 3, 11, 36, 2), (19, .iload_n 1, 1, 0, 0, 0), (20, .iaload, 1, 0, 0, 0), (21, .iconst 1, 1, 0, 0, 0), (22, .if_icmp .ne 10, 3, 32, 0, 0), (25, .aload_n 0, 1, 0, 0, 0), (26, .getfield 83, 3, 11, 37, 2), (29, .iload_n 1, 1, 0, 0, 0), (30, .iconst 0, 1, 0, 0, 0), (31, .iastore, 1, 0, 0, 0), (32, .iinc 1 1, 3, 0, 0, 0), (35, .goto (-33), 3, 2, 0, 0), (38, .aload_n 0, 1, 0, 0, 0), (39, .aload_n 0, 1, 0, 0, 0), (40, .getfield 74, 3, 11, 34, 0), (43, .putfield 403, 3, 11, 66, 0), (46, .return_, 1, 0, 0, 0)]
def cu_158 : List (Nat × List Nat) := [(2, [0, 1]), (32, [0, 1])]
def G_158 : tm_G := fun _ _ _ => none
noncomputable def F_158 : List Value → tm_M → Option tm_R := tm_m tm_sh none G_158 false cd_158 cu_158 29 2
theorem gg_158 : tm_Gg G_158 := fun _ _ _ _ h => by cases h
theorem gm_158 (l : Launch) : ∀ id as M r, G_158 id as M = some r → tm_MA tm_sh l (tm_mt id) as M r := fun _ _ _ _ h => by cases h
theorem gr_158 {as : List Value} {M : tm_M} {r : tm_R} (h : F_158 as M = some r) : tm_gr M r.2 := tm_m_gr gg_158 h
theorem ck_158 : tm_cdk (tm_mt 158).1.cls false tm_mt (tm_mt 158) false cd_158 := tm_cdk_of (LK := lk_RX11) (ix := [166, 163, 164, 193, 175]) lc_RX11 (by decide +kernel)
theorem con_158 (l : Launch) {as : List Value} {M : tm_M} {r : tm_R} (h : F_158 as M = some r) : tm_MA tm_sh l (tm_mt 158) as M r := tm_sound (t := tm_mt 158) tm_Sok_ok tm_CL_ok gg_158 (gm_158 l) (fun _ _ => ⟨rfl, rfl⟩) ck_158 (by decide +kernel) (fun h => by cases h) (fun _ _ _ _ => tm_nos_all (by decide +kernel)) h
def cd_159 : List tm_E := [(0, .aload_n 0, 1, 0, 0, 0), (1, .getfield 89, 3, 11, 39, 2), (4, .iload_n 1, 1, 0, 0, 0), (5, .iaload, 1, 0, 0, 0), (6, .istore_n 2, 1, 0, 0, 0), (7, .aload_n 0, 1, 0, 0, 0), (8, .getfield 86, 3, 11, 38, 2), (11, .iload_n 1, 1, 0, 0, 0), (12, .aload_n 0, 1, 0, 0, 0), (13, .getfield 86, 3, 11, 38, 2), (16, .iload_n 1, 1, 0, 0, 0), (17, .iaload, 1, 0, 0, 0), (18, .aload_n 0, 1, 0, 0, 0), (19, .iload_n 2, 1, 0, 0, 0), (20, .aload_n 0, 1, 0, 0, 0), (21, .getfield 143, 3, 11, 57, 2), (24, .iload_n 1, 1, 0, 0, 0), (25, .baload, 1, 0, 0, 0), (26, .invokevirtual 352, 3, 95, 2, 45), (29, .iadd, 1, 0, 0, 0), (30, .iconst 4, 1, 0, 0, 0), (31, .irem, 1, 0, 0, 0), (32, .iastore, 1, 0, 0, 0), (33, .aload_n 0, 1, 0, 0, 0), (34, .getfield 28, 3, 11, 13, 2), (37, .bipush 12, 2, 0, 0, 0), (39, .aload_n 0, 1, 0, 0, 0), (40, .getfield 295, 3, 11, 21, 0), (43, .imul, 1, 0, 0, 0), (44, .iload_n 2, 1, 0, 0, 0), (45, .iadd, 1, 0, 0, 0), (46, .iaload, 1, 0, 0, 0), (47, .istore_n 3, 1, 0, 0, 0), (48, .aload_n 0, 1, 0, 0, 0), (49, .getfield 101, 3, 11, 43, 2), (52, .iload_n 2, 1, 0, 0, 0), (53, .iaload, 1, 0, 0, 0), (54, .ifCond .ne 7, 3, 61, 0, 0), (57, .iload_n 3, 1, 0, 0, 0), (58, .goto 20, 3, 78, 0, 0), (61, .aload_n 0, 1, 0, 0, 0), (62, .getfield 101, 3, 11, 43, 2), (65, .iload_n 2, 1, 0, 0, 0), (66, .iaload, 1, 0, 0, 0), (67, .iconst 1, 1, 0, 0, 0), (68, .if_icmp .ne 9, 3, 77, 0, 0), (71, .iload_n 3, 1, 0, 0, 0), (72, .iconst 2, 1, 0, 0, 0), (73, .idiv, 1, 0, 0, 0), (74, .goto 4, 3, 78, 0, 0), (77, .iconst 0, 1, 0, 0, 0), (78, .istore 4, 2, 0, 0, 0), (80, .aload_n 0, 1, 0, 0, 0), (81, .getfield 101, 3, 11, 43, 2), (84, .iload_n 2, 1, 0, 0, 0), (85, .dup2, 1, 0, 0, 0), (86, .iaload, 1, 0, 0, 0), (87, .iconst 1, 1, 0, 0, 0), (88, .iadd, 1, 0, 0, 0), (89, .iastore, 1, 0, 0, 0), (90, .aload_n 0, 1, 0, 0, 0), (91, .dup, 1, 0, 0, 0), (92, .getfield 409, 3, 11, 62, 0), (95, .iload 4, 2, 0, 0, 0), (97, .iadd, 1, 0, 0, 0), (98, .putfield 409, 3, 11, 62, 0), (101, .aload_n 0, 1, 0, 0, 0), (102, .getfield 412, 3, 11, 61, 0), (105, .bipush 100, 2, 0, 0, 0), (107, .if_icmp .ge 64, 3, 171, 0, 0), (110, .aload_n 0, 1, 0, 0, 0), (111, .getfield 131, 3, 11, 53, 2), (114, .aload_n 0, 1, 0, 0, 0), (115, .getfield 412, 3, 11, 61, 0), (118, .aload_n 0, 1, 0, 0, 0), (119, .getfield 92, 3, 11, 40, 2), (122, .iload_n 1, 1, 0, 0, 0), (123, .iaload, 1, 0, 0, 0), (124, .iastore, 1, 0, 0, 0), (125, .aload_n 0, 1, 0, 0, 0), (126, .getfield 134, 3, 11, 54, 2), (129, .aload_n 0, 1, 0, 0, 0), (130, .getfield 412, 3, 11, 61, 0), (133, .iload_n 2, 1, 0, 0, 0), (134, .iastore, 1, 0, 0, 0), (135, .aload_n 0, 1, 0, 0, 0), (136, .getfield 137, 3, 11, 55, 2), (139, .aload_n 0, 1, 0, 0, 0), (140, .getfield 412, 3, 11, 61, 0), (143, .iload_n 1, 1, 0, 0, 0), (144, .iastore, 1, 0, 0, 0), (145, .aload_n 0, 1, 0, 0, 0), (146, .getfield 146, 3, 11, 58, 2), (149, .aload_n 0, 1, 0, 0, 0), (150, .getfield 412, 3, 11, 61, 0), (153, .aload_n 0, 1, 0, 0, 0), (154, .getfield 143, 3, 11, 57, 2), (157, .iload_n 1, 1, 0, 0, 0), (158, .baload, 1, 0, 0, 0), (159, .bastore, 1, 0, 0, 0), (160, .aload_n 0, 1, 0, 0, 0), (161, .getfield 140, 3, 11, 56, 2), (164, .aload_n 0, 1, 0, 0, 0), (165, .getfield 412, 3, 11, 61, 0), (168, .iload 4, 2, 0, 0, 0), (170, .iastore, 1, 0, 0, 0), (171, .aload_n 0, 1, 0, 0, 0), (172, .dup, 1, 0, 0, 0), (173, .getfield 412, 3, 11, 61, 0), (176, .iconst 1, 1, 0, 0, 0), (177, .iadd, 1, 0, 0, 0), (178, .putfield 412, 3, 11, 61, 0), (181, .aload_n 0, 1, 0, 0, 0), (182, .getfield 89, 3, 11, 39, 2), (185, .iload_n 1, 1, 0, 0, 0), (186, .iconst (-1), 1, 0, 0, 0), (187, .iastore, 1, 0, 0, 0), (188, .return_, 1, 0, 0, 0)]
def cu_159 : List (Nat × List Nat) := [(29, [0, 1, 2]), (78, [0, 1, 2]), (171, [0, 1])]
noncomputable def G_159 : tm_G := fun id as M => if id = 95 then F_95 as M else none
noncomputable def F_159 : List Value → tm_M → Option tm_R := tm_m tm_sh none G_159 false cd_159 cu_159 119 5
theorem gg_159 : tm_Gg G_159 := by
  intro id as M r h
  unfold G_159 at h
  rcases tm_ite_e h with ⟨_, h⟩ | ⟨_, h⟩
  · exact gr_95 h
  cases h
theorem gm_159 (l : Launch) : ∀ id as M r, G_159 id as M = some r → tm_MA tm_sh l (tm_mt id) as M r := by
  intro id as M r h
  unfold G_159 at h
  rcases tm_ite_e h with ⟨rfl, h⟩ | ⟨_, h⟩
  · exact con_95 l h
  cases h
theorem gr_159 {as : List Value} {M : tm_M} {r : tm_R} (h : F_159 as M = some r) : tm_gr M r.2 := tm_m_gr gg_159 h
theorem ck_159 : tm_cdk (tm_mt 159).1.cls false tm_mt (tm_mt 159) false cd_159 := tm_cdk_of (LK := lk_RX11) (ix := [166, 165, 165, 185, 157, 128, 133, 168, 168, 168, 194, 173, 195, 196, 195, 186, 197, 195, 198, 195, 199, 195, 185, 200, 195, 195, 172, 166]) lc_RX11 (by decide +kernel)
theorem con_159 (l : Launch) {as : List Value} {M : tm_M} {r : tm_R} (h : F_159 as M = some r) : tm_MA tm_sh l (tm_mt 159) as M r := tm_sound (t := tm_mt 159) tm_Sok_ok tm_CL_ok gg_159 (gm_159 l) (fun _ _ => ⟨rfl, rfl⟩) ck_159 (by decide +kernel) (fun h => by cases h) (fun _ _ _ _ => tm_nos_all (by decide +kernel)) h
def cd_160 : List tm_E := [(0, .iconst 0, 1, 0, 0, 0), (1, .istore_n 1, 1, 0, 0, 0), (2, .iload_n 1, 1, 0, 0, 0), (3, .bipush 6, 2, 0, 0, 0), (5, .if_icmp .ge 149, 3, 154, 0, 0), (8, .aload_n 0, 1, 0, 0, 0), (9, .getfield 80, 3, 11, 36, 2), (12, .iload_n 1, 1, 0, 0, 0), (13, .iaload, 1, 0, 0, 0), (14, .iconst 1, 1, 0, 0, 0), (15, .if_icmp .eq 6, 3, 21, 0, 0), (18, .goto 130, 3, 148, 0, 0), (21, .aload_n 0, 1, 0, 0, 0), (22, .getfield 89, 3, 11, 39, 2), (25, .iload_n 1, 1, 0, 0, 0), (26, .iaload, 1, 0, 0, 0), (27, .ifCond .ge 27, 3, 54, 0, 0), (30, .aload_n 0, 1, 0, 0, 0), (31, .getfield 83, 3, 11, 37, 2), (34, .iload_n 1, 1, 0, 0, 0), (35, .aload_n 0, 1, 0, 0, 0), (36, .getfield 83, 3, 11, 37, 2), (39, .iload_n 1, 1, 0, 0, 0), (40, .iaload, 1, 0, 0, 0), (41, .iconst 1, 1, 0, 0, 0), (42, .if_icmp .ne 7, 3, 49, 0, 0), (45, .iconst 1, 1, 0, 0, 0), (46, .goto 4, 3, 50, 0, 0), (49, .iconst 2, 1, 0, 0, 0), (50, .iastore, 1, 0, 0, 0), (51, .goto 97, 3, 148, 0, 0), (54, .iconst 0, 1, 0, 0, 0), (55, .istore_n 2, 1, 0, 0, 0), (56, .iload_n 2, 1, 0, 0, 0), (57, .iconst 4, 1, 0, 0, 0), (58, .if_icmp .ge 56, 3, 114, 0, 0), (61, .aload_n 0, 1, 0, 0, 0), (62, .aload_n 0, 1, 0, 0, 0), (63, .getfield 89, 3, 11, 39, 2), (66, .iload_n 1, 1, 0, 0, 0), (67, .iaload, 1, 0, 0, 0), (68, .aload_n 0, 1, 0, 0, 0), (69, .getfield 143, 3, 11, 57, 2), (72, .iload_n 1, 1, 0, 0, 0), (73, .baload, 1, 0, 0, 0), (74, .iconst 4, 1, 0, 0, 0), (75, .aload_n 0, 1, 0, 0, 0), (76, .getfield 149, 3, 11, 67, 2), (79, .iload_n 1, 1, 0, 0, 0), (80, .iaload, 1, 0, 0, 0), (81, .imul, 1, 0, 0, 0), (82, .iload_n 2, 1, 0, 0, 0), (83, .iadd, 1, 0, 0, 0), (84, .invokevirtual 345, 3, 98, 3, 45), (87, .istore_n 3, 1, 0, 0, 0), (88, .aload_n 0, 1, 0, 0, 0), (89, .getfield 83, 3, 11, 37, 2), (92, .iload_n 1, 1, 0, 0, 0), (93, .iload_n 3, 1, 0, 0, 0), (94, .ifCond .eq 7, 3, 101, 0, 0), (97, .iload_n 3, 1, 0, 0, 0), (98, .goto 9, 3, 107, 0, 0), (101, .aload_n 0, 1, 0, 0, 0), (102, .getfield 83, 3, 11, 37, 2), (105, .iload_n 1, 1, 0, 0, 0), (106, .iaload, 1, 0, 0, 0), (107, .iastore, 1, 0, 0, 0), (108, .iinc 2 1, 3, 0, 0, 0), (111, .goto (-55), 3, 56, 0, 0), (114, .aload_n 0, 1, 0, 0, 0), (115, .getfield 149, 3, 11, 67, 2), (118, .iload_n 1, 1, 0, 0, 0), (119, .dup2, 1, 0, 0, 0), (120, .iaload, 1, 0, 0, 0), (121, .iconst 1, 1, 0, 0, 0), (122, .iadd, 1, 0, 0, 0), (123, .iastore, 1, 0, 0, 0), (124, .aload_n 0, 1, 0, 0, 0), (125, .getfield 149, 3, 11, 67, 2), (128, .iload_n 1, 1, 0, 0, 0), (129, .iaload, 1, 0, 0, 0), (130, .aload_n 0, 1, 0, 0, 0), (131, .aload_n 0, 1, 0, 0, 0), (132, .getfield 89, 3, 11, 39, 2), (135, .iload_n 1, 1, 0, 0, 0), (136, .iaload, 1, 0, 0, 0), (137, .invokevirtual 342, 3, 94, 1, 45), (140, .if_icmp .ne 8, 3, 148, 0, 0), (143, .aload_n 0, 1, 0, 0, 0), (144, .iload_n 1, 1, 0, 0, 0), (145, .invokevirtual 406, 3, 159, 1, 44), (148, .iinc 1 1, 3, 0, 0, 0), (151, .goto (-149), 3, 2, 0, 0), (154, .return_, 1, 0, 0, 0)]
def cu_160 : List (Nat × List Nat) := [(2, [0, 1]), (50, [0, 1]), (56, [0, 1, 2]), (87, [0, 1, 2]), (107, [0, 1, 2]), (140, [0, 1]), (148, [0, 1])]
noncomputable def G_160 : tm_G := fun id as M => if id = 98 then F_98 as M else if id = 94 then F_94 as M else if id = 159 then F_159 as M else none
noncomputable def F_160 : List Value → tm_M → Option tm_R := tm_m tm_sh none G_160 false cd_160 cu_160 95 4
theorem gg_160 : tm_Gg G_160 := by
  intro id as M r h
  unfold G_160 at h
  rcases tm_ite_e h with ⟨_, h⟩ | ⟨_, h⟩
  · exact gr_98 h
  rcases tm_ite_e h with ⟨_, h⟩ | ⟨_, h⟩
  · exact gr_94 h
  rcases tm_ite_e h with ⟨_, h⟩ | ⟨_, h⟩
  · exact gr_159 h
  cases h
theorem gm_160 (l : Launch) : ∀ id as M r, G_160 id as M = some r → tm_MA tm_sh l (tm_mt id) as M r := by
  intro id as M r h
  unfold G_160 at h
  rcases tm_ite_e h with ⟨rfl, h⟩ | ⟨_, h⟩
  · exact con_98 l h
  rcases tm_ite_e h with ⟨rfl, h⟩ | ⟨_, h⟩
  · exact con_94 l h
  rcases tm_ite_e h with ⟨rfl, h⟩ | ⟨_, h⟩
  · exact con_159 l h
  cases h
theorem gr_160 {as : List Value} {M : tm_M} {r : tm_R} (h : F_160 as M = some r) : tm_gr M r.2 := tm_m_gr gg_160 h
theorem ck_160 : tm_cdk (tm_mt 160).1.cls false tm_mt (tm_mt 160) false cd_160 := tm_cdk_of (LK := lk_RX11) (ix := [163, 166, 164, 164, 166, 185, 167, 155, 164, 164, 167, 167, 166, 154, 201]) lc_RX11 (by decide +kernel)
theorem con_160 (l : Launch) {as : List Value} {M : tm_M} {r : tm_R} (h : F_160 as M = some r) : tm_MA tm_sh l (tm_mt 160) as M r := tm_sound (t := tm_mt 160) tm_Sok_ok tm_CL_ok gg_160 (gm_160 l) (fun _ _ => ⟨rfl, rfl⟩) ck_160 (by decide +kernel) (fun h => by cases h) (fun _ _ _ _ => tm_nos_all (by decide +kernel)) h
def cd_161 : List tm_E := [(0, .iconst 0, 1, 0, 0, 0), (1, .istore_n 1, 1, 0, 0, 0), (2, .iload_n 1, 1, 0, 0, 0), (3, .iconst 2, 1, 0, 0, 0), (4, .if_icmp .ge 98, 3, 102, 0, 0), (7, .aload_n 0, 1, 0, 0, 0), (8, .getfield 98, 3, 11, 42, 2), (11, .iload_n 1, 1, 0, 0, 0), (12, .iaload, 1, 0, 0, 0), (13, .ifCond .ge 6, 3, 19, 0, 0), (16, .goto 80, 3, 96, 0, 0), (19, .aload_n 0, 1, 0, 0, 0), (20, .getfield 95, 3, 11, 41, 2), (23, .iload_n 1, 1, 0, 0, 0), (24, .dup2, 1, 0, 0, 0), (25, .iaload, 1, 0, 0, 0), (26, .iconst 1, 1, 0, 0, 0), (27, .iadd, 1, 0, 0, 0), (28, .iastore, 1, 0, 0, 0), (29, .aload_n 0, 1, 0, 0, 0), (30, .getfield 95, 3, 11, 41, 2), (33, .iload_n 1, 1, 0, 0, 0), (34, .iaload, 1, 0, 0, 0), (35, .iconst 2, 1, 0, 0, 0), (36, .if_icmp .ge 6, 3, 42, 0, 0), (39, .goto 57, 3, 96, 0, 0), (42, .iconst 0, 1, 0, 0, 0), (43, .istore_n 2, 1, 0, 0, 0), (44, .iload_n 2, 1, 0, 0, 0), (45, .bipush 6, 2, 0, 0, 0), (47, .if_icmp .ge 28, 3, 75, 0, 0), (50, .aload_n 0, 1, 0, 0, 0), (51, .getfield 80, 3, 11, 36, 2), (54, .iload_n 2, 1, 0, 0, 0), (55, .iaload, 1, 0, 0, 0), (56, .iconst 2, 1, 0, 0, 0), (57, .iload_n 1, 1, 0, 0, 0), (58, .iadd, 1, 0, 0, 0), (59, .if_icmp .ne 10, 3, 69, 0, 0), (62, .aload_n 0, 1, 0, 0, 0), (63, .getfield 80, 3, 11, 36, 2), (66, .iload_n 2, 1, 0, 0, 0), (67, .iconst 0, 1, 0, 0, 0), (68, .iastore, 1, 0, 0, 0), (69, .iinc 2 1, 3, 0, 0, 0), (72, .goto (-28), 3, 44, 0, 0), (75, .aload_n 0, 1, 0, 0, 0), (76, .getfield 80, 3, 11, 36, 2), (79, .aload_n 0, 1, 0, 0, 0), (80, .getfield 98, 3, 11, 42, 2), (83, .iload_n 1, 1, 0, 0, 0), (84, .iaload, 1, 0, 0, 0), (85, .iconst 2, 1, 0, 0, 0), (86, .iload_n 1, 1, 0, 0, 0), (87, .iadd, 1, 0, 0, 0), (88, .iastore, 1, 0, 0, 0), (89, .aload_n 0, 1, 0, 0, 0), (90, .getfield 98, 3, 11, 42, 2), (93, .iload_n 1, 1, 0, 0, 0), (94, .iconst (-1), 1, 0, 0, 0), (95, .iastore, 1, 0, 0, 0), (96, .iinc 1 1, 3, 0, 0, 0), (99, .goto (-97), 3, 2, 0, 0), (102, .return_, 1, 0, 0, 0)]
def cu_161 : List (Nat × List Nat) := [(2, [0, 1]), (44, [0, 1, 2]), (69, [0, 1, 2]), (96, [0, 1])]
def G_161 : tm_G := fun _ _ _ => none
noncomputable def F_161 : List Value → tm_M → Option tm_R := tm_m tm_sh none G_161 false cd_161 cu_161 65 3
theorem gg_161 : tm_Gg G_161 := fun _ _ _ _ h => by cases h
theorem gm_161 (l : Launch) : ∀ id as M r, G_161 id as M = some r → tm_MA tm_sh l (tm_mt id) as M r := fun _ _ _ _ h => by cases h
theorem gr_161 {as : List Value} {M : tm_M} {r : tm_R} (h : F_161 as M = some r) : tm_gr M r.2 := tm_m_gr gg_161 h
theorem ck_161 : tm_cdk (tm_mt 161).1.cls false tm_mt (tm_mt 161) false cd_161 := tm_cdk_of (LK := lk_RX11) (ix := [170, 187, 187, 163, 163, 163, 170, 170]) lc_RX11 (by decide +kernel)
theorem con_161 (l : Launch) {as : List Value} {M : tm_M} {r : tm_R} (h : F_161 as M = some r) : tm_MA tm_sh l (tm_mt 161) as M r := tm_sound (t := tm_mt 161) tm_Sok_ok tm_CL_ok gg_161 (gm_161 l) (fun _ _ => ⟨rfl, rfl⟩) ck_161 (by decide +kernel) (fun h => by cases h) (fun _ _ _ _ => tm_nos_all (by decide +kernel)) h
