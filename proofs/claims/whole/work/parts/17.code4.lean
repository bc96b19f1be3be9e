/-! codes, functions and contracts of methods -/
def cd_100 : List tm_E := [(0, .aload_n 0, 1, 0, 0, 0), (1, .getfield 46, 3, 11, 19, 2), (4, .bipush 8, 2, 0, 0, 0), (6, .bipush 12, 2, 0, 0, 0), (8, .aload_n 0, 1, 0, 0, 0), (9, .getfield 295, 3, 11, 21, 0), (12, .imul, 1, 0, 0, 0), (13, .iload_n 1, 1, 0, 0, 0), (14, .iadd, 1, 0, 0, 0), (15, .imul, 1, 0, 0, 0), (16, .iload_n 2, 1, 0, 0, 0), (17, .iadd, 1, 0, 0, 0), (18, .iaload, 1, 0, 0, 0), (19, .istore_n 3, 1, 0, 0, 0), (20, .iload_n 3, 1, 0, 0, 0), (21, .ifCond .ge 7, 3, 28, 0, 0), (24, .iconst 0, 1, 0, 0, 0), (25, .goto 4, 3, 29, 0, 0), (28, .iload_n 3, 1, 0, 0, 0), (29, .ireturn, 1, 0, 0, 0)]
def cu_100 : List (Nat × List Nat) := [(29, [])]
def G_100 : tm_G := fun _ _ _ => none
noncomputable def F_100 : List Value → tm_M → Option tm_R := tm_m tm_sh none G_100 false cd_100 cu_100 21 4
theorem gg_100 : tm_Gg G_100 := fun _ _ _ _ h => by cases h
theorem gm_100 (l : Launch) : ∀ id as M r, G_100 id as M = some r → tm_MA tm_sh l (tm_mt id) as M r := fun _ _ _ _ h => by cases h
theorem gr_100 {as : List Value} {M : tm_M} {r : tm_R} (h : F_100 as M = some r) : tm_gr M r.2 := tm_m_gr gg_100 h
theorem ck_100 : tm_cdk (tm_mt 100).1.cls false tm_mt (tm_mt 100) false cd_100 := tm_cdk_of (LK := lk_RX11) (ix := [118, 133]) lc_RX11 (by decide +kernel)
theorem con_100 (l : Launch) {as : List Value} {M : tm_M} {r : tm_R} (h : F_100 as M = some r) : tm_MA tm_sh l (tm_mt 100) as M r := tm_sound (t := tm_mt 100) tm_Sok_ok tm_CL_ok gg_100 (gm_100 l) (fun _ _ => ⟨rfl, rfl⟩) ck_100 (by decide +kernel) (fun h => by cases h) (fun _ _ _ _ => tm_nos_all (by decide +kernel)) h
def cd_101 : List tm_E := [(0, .aload_n 0, 1, 0, 0, 0), (1, .iload_n 1, 1, 0, 0, 0), (2, .invokevirtual 349, 3, 93, 1, 45), (5, .ifCond .ne 5, 3, 10, 0, 0), (8, .iconst (-1), 1, 0, 0, 0), (9, .ireturn, 1, 0, 0, 0), (10, .iload_n 3, 1, 0, 0, 0), (11, .tableswitch 121 0 6 #[41, 47, 62, 69, 76, 91, 114], 41, 0, 0, 0), (52, .aload_n 0, 1, 0, 0, 0), (53, .iload_n 1, 1, 0, 0, 0), (54, .invokevirtual 342, 3, 94, 1, 45), (57, .ireturn, 1, 0, 0, 0), (58, .aload_n 0, 1, 0, 0, 0), (59, .getfield 28, 3, 11, 13, 2), (62, .bipush 12, 2, 0, 0, 0), (64, .aload_n 0, 1, 0, 0, 0), (65, .getfield 295, 3, 11, 21, 0), (68, .imul, 1, 0, 0, 0), (69, .iload_n 1, 1, 0, 0, 0), (70, .iadd, 1, 0, 0, 0), (71, .iaload, 1, 0, 0, 0), (72, .ireturn, 1, 0, 0, 0), (73, .aload_n 0, 1, 0, 0, 0), (74, .iload_n 1, 1, 0, 0, 0), (75, .iload_n 2, 1, 0, 0, 0), (76, .invokevirtual 352, 3, 95, 2, 45), (79, .ireturn, 1, 0, 0, 0), (80, .aload_n 0, 1, 0, 0, 0), (81, .iload_n 1, 1, 0, 0, 0), (82, .iload_n 2, 1, 0, 0, 0), (83, .invokevirtual 356, 3, 97, 2, 45), (86, .ireturn, 1, 0, 0, 0), (87, .aload_n 0, 1, 0, 0, 0), (88, .getfield 40, 3, 11, 17, 2), (91, .bipush 12, 2, 0, 0, 0), (93, .aload_n 0, 1, 0, 0, 0), (94, .getfield 295, 3, 11, 21, 0), (97, .imul, 1, 0, 0, 0), (98, .iload_n 1, 1, 0, 0, 0), (99, .iadd, 1, 0, 0, 0), (100, .iaload, 1, 0, 0, 0), (101, .ireturn, 1, 0, 0, 0), (102, .aload_n 0, 1, 0, 0, 0), (103, .getfield 49, 3, 11, 20, 2), (106, .bipush 12, 2, 0, 0, 0), (108, .aload_n 0, 1, 0, 0, 0), (109, .getfield 295, 3, 11, 21, 0), (112, .imul, 1, 0, 0, 0), (113, .iload_n 1, 1, 0, 0, 0), (114, .iadd, 1, 0, 0, 0), (115, .baload, 1, 0, 0, 0), (116, .ifCond .eq 7, 3, 123, 0, 0), (119, .iconst 1, 1, 0, 0, 0), (120, .goto 4, 3, 124, 0, 0), (123, .iconst 0, 1, 0, 0, 0), (124, .ireturn, 1, 0, 0, 0), (125, .aload_n 0, 1, 0, 0, 0), (126, .iload_n 1, 1, 0, 0, 0), (127, .iload_n 2, 1, 0, 0, 0), (128, .invokevirtual 359, 3, 99, 2, 45), (131, .ireturn, 1, 0, 0, 0), (132, .iload_n 3, 1, 0, 0, 0), (133, .bipush 10, 2, 0, 0, 0), (135, .if_icmp .lt 25, 3, 160, 0, 0), (138, .iload_n 3, 1, 0, 0, 0), (139, .bipush 10, 2, 0, 0, 0), (141, .aload_n 0, 1, 0, 0, 0), (142, .iload_n 1, 1, 0, 0, 0), (143, .invokevirtual 342, 3, 94, 1, 45), (146, .iadd, 1, 0, 0, 0), (147, .if_icmp .ge 13, 3, 160, 0, 0), (150, .aload_n 0, 1, 0, 0, 0), (151, .iload_n 1, 1, 0, 0, 0), (152, .iload_n 3, 1, 0, 0, 0), (153, .bipush 10, 2, 0, 0, 0), (155, .isub, 1, 0, 0, 0), (156, .invokevirtual 362, 3, 100, 2, 45), (159, .ireturn, 1, 0, 0, 0), (160, .iload_n 3, 1, 0, 0, 0), (161, .bipush 20, 2, 0, 0, 0), (163, .if_icmp .lt 30, 3, 193, 0, 0), (166, .iload_n 3, 1, 0, 0, 0), (167, .bipush 20, 2, 0, 0, 0), (169, .iconst 4, 1, 0, 0, 0), (170, .aload_n 0, 1, 0, 0, 0), (171, .iload_n 1, 1, 0, 0, 0), (172, .invokevirtual 342, 3, 94, 1, 45), (175, .imul, 1, 0, 0, 0), (176, .iadd, 1, 0, 0, 0), (177, .if_icmp .ge 16, 3, 193, 0, 0), (180, .aload_n 0, 1, 0, 0, 0), (181, .iload_n 1, 1, 0, 0, 0), (182, .iload_n 2, 1, 0, 0, 0), (183, .iload_n 3, 1, 0, 0, 0), (184, .bipush 20, 2, 0, 0, 0), (186, .isub, 1, 0, 0, 0), (187, .invokevirtual 345, 3, 98, 3, 45), (190, .goto 4, 3, 194, 0, 0), (193, .iconst (-1), 1, 0, 0, 0), (194, .ireturn, 1, 0, 0, 0)]
def cu_101 : List (Nat × List Nat) := [(5, [0, 1, 2, 3]), (57, []), (79, []), (86, []), (124, []), (131, []), (146, [0, 1, 2, 3]), (159, []), (160, [0, 1, 2, 3]), (175, [0, 1, 2, 3]), (190, []), (193, []), (194, [])]
noncomputable def G_101 : tm_G := fun id as M => if id = 93 then F_93 as M else if id = 94 then F_94 as M else if id = 95 then F_95 as M else if id = 97 then F_97 as M else if id = 99 then F_99 as M else if id = 100 then F_100 as M else if id = 98 then F_98 as M else none
noncomputable def F_101 : List Value → tm_M → Option tm_R := tm_m tm_sh none G_101 false cd_101 cu_101 101 4
theorem gg_101 : tm_Gg G_101 := by
  intro id as M r h
  unfold G_101 at h
  rcases tm_ite_e h with ⟨_, h⟩ | ⟨_, h⟩
  · exact gr_93 h
  rcases tm_ite_e h with ⟨_, h⟩ | ⟨_, h⟩
  · exact gr_94 h
  rcases tm_ite_e h with ⟨_, h⟩ | ⟨_, h⟩
  · exact gr_95 h
  rcases tm_ite_e h with ⟨_, h⟩ | ⟨_, h⟩
  · exact gr_97 h
  rcases tm_ite_e h with ⟨_, h⟩ | ⟨_, h⟩
  · exact gr_99 h
  rcases tm_ite_e h with ⟨_, h⟩ | ⟨_, h⟩
  · exact gr_100 h
  rcases tm_ite_e h with ⟨_, h⟩ | ⟨_, h⟩
  · exact gr_98 h
  cases h
theorem gm_101 (l : Launch) : ∀ id as M r, G_101 id as M = some r → tm_MA tm_sh l (tm_mt id) as M r := by
  intro id as M r h
  unfold G_101 at h
  rcases tm_ite_e h with ⟨rfl, h⟩ | ⟨_, h⟩
  · exact con_93 l h
  rcases tm_ite_e h with ⟨rfl, h⟩ | ⟨_, h⟩
  · exact con_94 l h
  rcases tm_ite_e h with ⟨rfl, h⟩ | ⟨_, h⟩
  · exact con_95 l h
  rcases tm_ite_e h with ⟨rfl, h⟩ | ⟨_, h⟩
  · exact con_97 l h
  rcases tm_ite_e h with ⟨rfl, h⟩ | ⟨_, h⟩
  · exact con_99 l h
  rcases tm_ite_e h with ⟨rfl, h⟩ | ⟨_, h⟩
  · exact con_100 l h
  rcases tm_ite_e h with ⟨rfl, h⟩ | ⟨_, h⟩
  · exact con_98 l h
  cases h
theorem gr_101 {as : List Value} {M : tm_M} {r : tm_R} (h : F_101 as M = some r) : tm_gr M r.2 := tm_m_gr gg_101 h
theorem ck_101 : tm_cdk (tm_mt 101).1.cls false tm_mt (tm_mt 101) false cd_101 := tm_cdk_of (LK := lk_RX11) (ix := [156, 154, 128, 133, 157, 158, 121, 133, 122, 133, 159, 154, 160, 154, 155]) lc_RX11 (by decide +kernel)
theorem con_101 (l : Launch) {as : List Value} {M : tm_M} {r : tm_R} (h : F_101 as M = some r) : tm_MA tm_sh l (tm_mt 101) as M r := tm_sound (t := tm_mt 101) tm_Sok_ok tm_CL_ok gg_101 (gm_101 l) (fun _ _ => ⟨rfl, rfl⟩) ck_101 (by decide +kernel) (fun h => by cases h) (fun _ _ _ _ => tm_nos_all (by decide +kernel)) h
def cd_102 : List tm_E := [(0, .iload_n 1, 1, 0, 0, 0), (1, .ifCond .ne 23, 3, 24, 0, 0), (4, .iload_n 0, 1, 0, 0, 0), (5, .ifCond .eq 13, 3, 18, 0, 0), (8, .iload_n 0, 1, 0, 0, 0), (9, .iconst 1, 1, 0, 0, 0), (10, .if_icmp .eq 8, 3, 18, 0, 0), (13, .iload_n 0, 1, 0, 0, 0), (14, .iconst 3, 1, 0, 0, 0), (15, .if_icmp .ne 7, 3, 22, 0, 0), (18, .iconst 1, 1, 0, 0, 0), (19, .goto 4, 3, 23, 0, 0), (22, .iconst 0, 1, 0, 0, 0), (23, .ireturn, 1, 0, 0, 0), (24, .iload_n 1, 1, 0, 0, 0), (25, .iconst 2, 1, 0, 0, 0), (26, .if_icmp .ne 16, 3, 42, 0, 0), (29, .iload_n 0, 1, 0, 0, 0), (30, .ifCond .eq 8, 3, 38, 0, 0), (33, .iload_n 0, 1, 0, 0, 0), (34, .iconst 2, 1, 0, 0, 0), (35, .if_icmp .ne 7, 3, 42, 0, 0), (38, .iconst 1, 1, 0, 0, 0), (39, .goto 4, 3, 43, 0, 0), (42, .iconst 0, 1, 0, 0, 0), (43, .ireturn, 1, 0, 0, 0)]
def cu_102 : List (Nat × List Nat) := [(18, []), (23, []), (38, []), (42, []), (43, [])]
def G_102 : tm_G := fun _ _ _ => none
noncomputable def F_102 : List Value → tm_M → Option tm_R := tm_m tm_sh none G_102 true cd_102 cu_102 27 2
theorem gg_102 : tm_Gg G_102 := fun _ _ _ _ h => by cases h
theorem gm_102 (l : Launch) : ∀ id as M r, G_102 id as M = some r → tm_MA tm_sh l (tm_mt id) as M r := fun _ _ _ _ h => by cases h
theorem gr_102 {as : List Value} {M : tm_M} {r : tm_R} (h : F_102 as M = some r) : tm_gr M r.2 := tm_m_gr gg_102 h
theorem ck_102 : tm_cdk (tm_mt 102).1.cls false tm_mt (tm_mt 102) true cd_102 := tm_cdk_of (LK := lk_RX10) (ix := []) lc_RX10 (by decide +kernel)
theorem con_102 (l : Launch) {as : List Value} {M : tm_M} {r : tm_R} (h : F_102 as M = some r) : tm_MA tm_sh l (tm_mt 102) as M r := tm_sound (t := tm_mt 102) tm_Sok_ok tm_CL_ok gg_102 (gm_102 l) (fun _ _ => ⟨rfl, rfl⟩) ck_102 (by decide +kernel) (fun h => by cases h) (fun _ _ _ _ => tm_nos_all (by decide +kernel)) h
def cd_103 : List tm_E := [(0, .iconst 0, 1, 0, 0, 0), (1, .istore_n 1, 1, 0, 0, 0), (2, .iload_n 1, 1, 0, 0, 0), (3, .iconst 4, 1, 0, 0, 0), (4, .aload_n 0, 1, 0, 0, 0), (5, .getfield 26, 3, 8, 4, 0), (8, .imul, 1, 0, 0, 0), (9, .if_icmp .ge 36, 3, 45, 0, 0), (12, .aload_n 0, 1, 0, 0, 0), (13, .iload_n 1, 1, 0, 0, 0), (14, .iconst 0, 1, 0, 0, 0), (15, .invokevirtual 76, 3, 88, 2, 33), (18, .ifCond .eq 21, 3, 39, 0, 0), (21, .aload_n 0, 1, 0, 0, 0), (22, .iload_n 1, 1, 0, 0, 0), (23, .iconst 4, 1, 0, 0, 0), (24, .idiv, 1, 0, 0, 0), (25, .invokevirtual 73, 3, 90, 1, 33), (28, .iload_n 1, 1, 0, 0, 0), (29, .iconst 4, 1, 0, 0, 0), (30, .irem, 1, 0, 0, 0), (31, .invokestatic 83, 3, 102, 2, 1), (34, .ifCond .eq 5, 3, 39, 0, 0), (37, .iload_n 1, 1, 0, 0, 0), (38, .ireturn, 1, 0, 0, 0), (39, .iinc 1 1, 3, 0, 0, 0), (42, .goto (-40), 3, 2, 0, 0), (45, .iconst (-1), 1, 0, 0, 0), (46, .ireturn, 1, 0, 0, 0)]
def cu_103 : List (Nat × List Nat) := [(2, [0, 1]), (18, [0, 1]), (28, [0, 1]), (34, [0, 1]), (39, [0, 1])]
noncomputable def G_103 : tm_G := fun id as M => if id = 88 then F_88 as M else if id = 90 then F_90 as M else if id = 102 then F_102 as M else none
noncomputable def F_103 : List Value → tm_M → Option tm_R := tm_m tm_sh none G_103 false cd_103 cu_103 30 2
theorem gg_103 : tm_Gg G_103 := by
  intro id as M r h
  unfold G_103 at h
  rcases tm_ite_e h with ⟨_, h⟩ | ⟨_, h⟩
  · exact gr_88 h
  rcases tm_ite_e h with ⟨_, h⟩ | ⟨_, h⟩
  · exact gr_90 h
  rcases tm_ite_e h with ⟨_, h⟩ | ⟨_, h⟩
  · exact gr_102 h
  cases h
theorem gm_103 (l : Launch) : ∀ id as M r, G_103 id as M = some r → tm_MA tm_sh l (tm_mt id) as M r := by
  intro id as M r h
  unfold G_103 at h
  rcases tm_ite_e h with ⟨rfl, h⟩ | ⟨_, h⟩
  · exact con_88 l h
  rcases tm_ite_e h with ⟨rfl, h⟩ | ⟨_, h⟩
  · exact con_90 l h
  rcases tm_ite_e h with ⟨rfl, h⟩ | ⟨_, h⟩
  · exact con_102 l h
  cases h
theorem gr_103 {as : List Value} {M : tm_M} {r : tm_R} (h : F_103 as M = some r) : tm_gr M r.2 := tm_m_gr gg_103 h
theorem ck_103 : tm_cdk (tm_mt 103).1.cls false tm_mt (tm_mt 103) false cd_103 := tm_cdk_of (LK := lk_RX8) (ix := [15, 21, 28, 29]) lc_RX8 (by decide +kernel)
theorem con_103 (l : Launch) {as : List Value} {M : tm_M} {r : tm_R} (h : F_103 as M = some r) : tm_MA tm_sh l (tm_mt 103) as M r := tm_sound (t := tm_mt 103) tm_Sok_ok tm_CL_ok gg_103 (gm_103 l) (fun _ _ => ⟨rfl, rfl⟩) ck_103 (by decide +kernel) (fun h => by cases h) (fun _ _ _ _ => tm_nos_all (by decide +kernel)) h
def cd_104 : List tm_E := [(0, .aload_n 0, 1, 0, 0, 0), (1, .getfield 51, 3, 10, 6, 2), (4, .iload_n 1, 1, 0, 0, 0), (5, .invokevirtual 121, 3, 84, 1, 1), (8, .ifCond .eq 18, 3, 26, 0, 0), (11, .aload_n 0, 1, 0, 0, 0), (12, .getfield 51, 3, 10, 6, 2), (15, .getfield 125, 3, 0, 0, 2), (18, .iload_n 1, 1, 0, 0, 0), (19, .aaload, 1, 0, 0, 0), (20, .invokevirtual 135, 3, 103, 0, 33), (23, .goto 5, 3, 28, 0, 0), (26, .bipush (-2), 2, 0, 0, 0), (28, .ireturn, 1, 0, 0, 0)]
def cu_104 : List (Nat × List Nat) := [(8, [0, 1]), (23, []), (28, [])]
noncomputable def G_104 : tm_G := fun id as M => if id = 84 then F_84 as M else if id = 103 then F_103 as M else none
noncomputable def F_104 : List Value → tm_M → Option tm_R := tm_m tm_sh none G_104 false cd_104 cu_104 15 2
theorem gg_104 : tm_Gg G_104 := by
  intro id as M r h
  unfold G_104 at h
  rcases tm_ite_e h with ⟨_, h⟩ | ⟨_, h⟩
  · exact gr_84 h
  rcases tm_ite_e h with ⟨_, h⟩ | ⟨_, h⟩
  · exact gr_103 h
  cases h
theorem gm_104 (l : Launch) : ∀ id as M r, G_104 id as M = some r → tm_MA tm_sh l (tm_mt id) as M r := by
  intro id as M r h
  unfold G_104 at h
  rcases tm_ite_e h with ⟨rfl, h⟩ | ⟨_, h⟩
  · exact con_84 l h
  rcases tm_ite_e h with ⟨rfl, h⟩ | ⟨_, h⟩
  · exact con_103 l h
  cases h
theorem gr_104 {as : List Value} {M : tm_M} {r : tm_R} (h : F_104 as M = some r) : tm_gr M r.2 := tm_m_gr gg_104 h
theorem ck_104 : tm_cdk (tm_mt 104).1.cls false tm_mt (tm_mt 104) false cd_104 := tm_cdk_of (LK := lk_RX10) (ix := [37, 51, 37, 52, 54]) lc_RX10 (by decide +kernel)
theorem con_104 (l : Launch) {as : List Value} {M : tm_M} {r : tm_R} (h : F_104 as M = some r) : tm_MA tm_sh l (tm_mt 104) as M r := tm_sound (t := tm_mt 104) tm_Sok_ok tm_CL_ok gg_104 (gm_104 l) (fun _ _ => ⟨rfl, rfl⟩) ck_104 (by decide +kernel) (fun h => by cases h) (fun _ _ _ _ => tm_nos_all (by decide +kernel)) h
def cd_105 : List tm_E := [(0, .iload_n 1, 1, 0, 0, 0), (1, .ifCond .ne 17, 3, 18, 0, 0), (4, .iload_n 0, 1, 0, 0, 0), (5, .ifCond .eq 27, 3, 32, 0, 0), (8, .iload_n 0, 1, 0, 0, 0), (9, .iconst 1, 1, 0, 0, 0), (10, .if_icmp .eq 22, 3, 32, 0, 0), (13, .iload_n 0, 1, 0, 0, 0), (14, .iconst 3, 1, 0, 0, 0), (15, .if_icmp .eq 17, 3, 32, 0, 0), (18, .iload_n 1, 1, 0, 0, 0), (19, .iconst 2, 1, 0, 0, 0), (20, .if_icmp .ne 16, 3, 36, 0, 0), (23, .iload_n 0, 1, 0, 0, 0), (24, .ifCond .eq 8, 3, 32, 0, 0), (27, .iload_n 0, 1, 0, 0, 0), (28, .iconst 2, 1, 0, 0, 0), (29, .if_icmp .ne 7, 3, 36, 0, 0), (32, .iconst 1, 1, 0, 0, 0), (33, .goto 4, 3, 37, 0, 0), (36, .iconst 0, 1, 0, 0, 0), (37, .ireturn, 1, 0, 0, 0)]
def cu_105 : List (Nat × List Nat) := [(18, [0, 1]), (32, []), (36, []), (37, [])]
def G_105 : tm_G := fun _ _ _ => none
noncomputable def F_105 : List Value → tm_M → Option tm_R := tm_m tm_sh none G_105 true cd_105 cu_105 23 2
theorem gg_105 : tm_Gg G_105 := fun _ _ _ _ h => by cases h
theorem gm_105 (l : Launch) : ∀ id as M r, G_105 id as M = some r → tm_MA tm_sh l (tm_mt id) as M r := fun _ _ _ _ h => by cases h
theorem gr_105 {as : List Value} {M : tm_M} {r : tm_R} (h : F_105 as M = some r) : tm_gr M r.2 := tm_m_gr gg_105 h
theorem ck_105 : tm_cdk (tm_mt 105).1.cls false tm_mt (tm_mt 105) true cd_105 := tm_cdk_of (LK := lk_RX11) (ix := []) lc_RX11 (by decide +kernel)
theorem con_105 (l : Launch) {as : List Value} {M : tm_M} {r : tm_R} (h : F_105 as M = some r) : tm_MA tm_sh l (tm_mt 105) as M r := tm_sound (t := tm_mt 105) tm_Sok_ok tm_CL_ok gg_105 (gm_105 l) (fun _ _ => ⟨rfl, rfl⟩) ck_105 (by decide +kernel) (fun h => by cases h) (fun _ _ _ _ => tm_nos_all (by decide +kernel)) h
def cd_106 : List tm_E := [(0, .iconst 0, 1, 0, 0, 0), (1, .istore_n 2, 1, 0, 0, 0), (2, .iload_n 2, 1, 0, 0, 0), (3, .iconst 4, 1, 0, 0, 0), (4, .aload_n 0, 1, 0, 0, 0), (5, .iload_n 1, 1, 0, 0, 0), (6, .invokevirtual 342, 3, 94, 1, 45), (9, .imul, 1, 0, 0, 0), (10, .if_icmp .ge 38, 3, 48, 0, 0), (13, .aload_n 0, 1, 0, 0, 0), (14, .iload_n 1, 1, 0, 0, 0), (15, .iconst 0, 1, 0, 0, 0), (16, .iload_n 2, 1, 0, 0, 0), (17, .invokevirtual 345, 3, 98, 3, 45), (20, .ifCond .eq 22, 3, 42, 0, 0), (23, .aload_n 0, 1, 0, 0, 0), (24, .iload_n 1, 1, 0, 0, 0), (25, .iload_n 2, 1, 0, 0, 0), (26, .iconst 4, 1, 0, 0, 0), (27, .idiv, 1, 0, 0, 0), (28, .invokevirtual 362, 3, 100, 2, 45), (31, .iload_n 2, 1, 0, 0, 0), (32, .iconst 4, 1, 0, 0, 0), (33, .irem, 1, 0, 0, 0), (34, .invokestatic 365, 3, 105, 2, 1), (37, .ifCond .eq 5, 3, 42, 0, 0), (40, .iload_n 2, 1, 0, 0, 0), (41, .ireturn, 1, 0, 0, 0), (42, .iinc 2 1, 3, 0, 0, 0), (45, .goto (-43), 3, 2, 0, 0), (48, .iconst (-1), 1, 0, 0, 0), (49, .ireturn, 1, 0, 0, 0)]
def cu_106 : List (Nat × List Nat) := [(2, [0, 1, 2]), (9, [0, 1, 2]), (20, [0, 1, 2]), (31, [0, 1, 2]), (37, [0, 1, 2]), (42, [0, 1, 2])]
noncomputable def G_106 : tm_G := fun id as M => if id = 94 then F_94 as M else if id = 98 then F_98 as M else if id = 100 then F_100 as M else if id = 105 then F_105 as M else none
noncomputable def F_106 : List Value → tm_M → Option tm_R := tm_m tm_sh none G_106 false cd_106 cu_106 33 3
theorem gg_106 : tm_Gg G_106 := by
  intro id as M r h
  unfold G_106 at h
  rcases tm_ite_e h with ⟨_, h⟩ | ⟨_, h⟩
  · exact gr_94 h
  rcases tm_ite_e h with ⟨_, h⟩ | ⟨_, h⟩
  · exact gr_98 h
  rcases tm_ite_e h with ⟨_, h⟩ | ⟨_, h⟩
  · exact gr_100 h
  rcases tm_ite_e h with ⟨_, h⟩ | ⟨_, h⟩
  · exact gr_105 h
  cases h
theorem gm_106 (l : Launch) : ∀ id as M r, G_106 id as M = some r → tm_MA tm_sh l (tm_mt id) as M r := by
  intro id as M r h
  unfold G_106 at h
  rcases tm_ite_e h with ⟨rfl, h⟩ | ⟨_, h⟩
  · exact con_94 l h
  rcases tm_ite_e h with ⟨rfl, h⟩ | ⟨_, h⟩
  · exact con_98 l h
  rcases tm_ite_e h with ⟨rfl, h⟩ | ⟨_, h⟩
  · exact con_100 l h
  rcases tm_ite_e h with ⟨rfl, h⟩ | ⟨_, h⟩
  · exact con_105 l h
  cases h
theorem gr_106 {as : List Value} {M : tm_M} {r : tm_R} (h : F_106 as M = some r) : tm_gr M r.2 := tm_m_gr gg_106 h
theorem ck_106 : tm_cdk (tm_mt 106).1.cls false tm_mt (tm_mt 106) false cd_106 := tm_cdk_of (LK := lk_RX11) (ix := [154, 155, 160, 161]) lc_RX11 (by decide +kernel)
theorem con_106 (l : Launch) {as : List Value} {M : tm_M} {r : tm_R} (h : F_106 as M = some r) : tm_MA tm_sh l (tm_mt 106) as M r := tm_sound (t := tm_mt 106) tm_Sok_ok tm_CL_ok gg_106 (gm_106 l) (fun _ _ => ⟨rfl, rfl⟩) ck_106 (by decide +kernel) (fun h => by cases h) (fun _ _ _ _ => tm_nos_all (by decide +kernel)) h
def cd_107 : List tm_E := [(0, .aload_n 0, 1, 0, 0, 0), (1, .iload_n 1, 1, 0, 0, 0), (2, .invokevirtual 349, 3, 93, 1, 45), (5, .ifCond .eq 11, 3, 16, 0, 0), (8, .aload_n 0, 1, 0, 0, 0), (9, .iload_n 1, 1, 0, 0, 0), (10, .invokevirtual 369, 3, 106, 1, 45), (13, .goto 5, 3, 18, 0, 0), (16, .bipush (-2), 2, 0, 0, 0), (18, .ireturn, 1, 0, 0, 0)]
def cu_107 : List (Nat × List Nat) := [(5, [0, 1]), (13, []), (18, [])]
noncomputable def G_107 : tm_G := fun id as M => if id = 93 then F_93 as M else if id = 106 then F_106 as M else none
noncomputable def F_107 : List Value → tm_M → Option tm_R := tm_m tm_sh none G_107 false cd_107 cu_107 11 2
theorem gg_107 : tm_Gg G_107 := by
  intro id as M r h
  unfold G_107 at h
  rcases tm_ite_e h with ⟨_, h⟩ | ⟨_, h⟩
  · exact gr_93 h
  rcases tm_ite_e h with ⟨_, h⟩ | ⟨_, h⟩
  · exact gr_106 h
  cases h
theorem gm_107 (l : Launch) : ∀ id as M r, G_107 id as M = some r → tm_MA tm_sh l (tm_mt id) as M r := by
  intro id as M r h
  unfold G_107 at h
  rcases tm_ite_e h with ⟨rfl, h⟩ | ⟨_, h⟩
  · exact con_93 l h
  rcases tm_ite_e h with ⟨rfl, h⟩ | ⟨_, h⟩
  · exact con_106 l h
  cases h
theorem gr_107 {as : List Value} {M : tm_M} {r : tm_R} (h : F_107 as M = some r) : tm_gr M r.2 := tm_m_gr gg_107 h
theorem ck_107 : tm_cdk (tm_mt 107).1.cls false tm_mt (tm_mt 107) false cd_107 := tm_cdk_of (LK := lk_RX11) (ix := [156, 162]) lc_RX11 (by decide +kernel)
theorem con_107 (l : Launch) {as : List Value} {M : tm_M} {r : tm_R} (h : F_107 as M = some r) : tm_MA tm_sh l (tm_mt 107) as M r := tm_sound (t := tm_mt 107) tm_Sok_ok tm_CL_ok gg_107 (gm_107 l) (fun _ _ => ⟨rfl, rfl⟩) ck_107 (by decide +kernel) (fun h => by cases h) (fun _ _ _ _ => tm_nos_all (by decide +kernel)) h
def cd_108 : List tm_E := [(0, .iload_n 1, 1, 0, 0, 0), (1, .ifCond .lt 19, 3, 20, 0, 0), (4, .iload_n 1, 1, 0, 0, 0), (5, .bipush 20, 2, 0, 0, 0), (7, .if_icmp .gt 13, 3, 20, 0, 0), (10, .iload_n 2, 1, 0, 0, 0), (11, .ifCond .lt 9, 3, 20, 0, 0), (14, .iload_n 2, 1, 0, 0, 0), (15, .bipush 99, 2, 0, 0, 0), (17, .if_icmp .le 5, 3, 22, 0, 0), (20, .iconst 0, 1, 0, 0, 0), (21, .ireturn, 1, 0, 0, 0), (22, .aload_n 0, 1, 0, 0, 0), (23, .iload_n 1, 1, 0, 0, 0), (24, .putfield 68, 3, 10, 12, 0), (27, .aload_n 0, 1, 0, 0, 0), (28, .iload_n 2, 1, 0, 0, 0), (29, .putfield 72, 3, 10, 13, 0), (32, .iconst 1, 1, 0, 0, 0), (33, .ireturn, 1, 0, 0, 0)]
def cu_108 : List (Nat × List Nat) := [(20, [])]
def G_108 : tm_G := fun _ _ _ => none
noncomputable def F_108 : List Value → tm_M → Option tm_R := tm_m tm_sh none G_108 true cd_108 cu_108 21 3
theorem gg_108 : tm_Gg G_108 := fun _ _ _ _ h => by cases h
theorem gm_108 (l : Launch) : ∀ id as M r, G_108 id as M = some r → tm_MA tm_sh l (tm_mt id) as M r := fun _ _ _ _ h => by cases h
theorem gr_108 {as : List Value} {M : tm_M} {r : tm_R} (h : F_108 as M = some r) : tm_gr M r.2 := tm_m_gr gg_108 h
theorem ck_108 : tm_cdk (tm_mt 108).1.cls false tm_mt (tm_mt 108) true cd_108 := tm_cdk_of (LK := lk_RX10) (ix := [26, 27]) lc_RX10 (by decide +kernel)
theorem con_108 (l : Launch) {as : List Value} {M : tm_M} {r : tm_R} (h : F_108 as M = some r) : tm_MA tm_sh l (tm_mt 108) as M r := tm_sound (t := tm_mt 108) tm_Sok_ok tm_CL_ok gg_108 (gm_108 l) (fun _ _ => ⟨rfl, rfl⟩) ck_108 (by decide +kernel) (fun h => by cases h) (fun _ _ _ _ => tm_nos_all (by decide +kernel)) h
def cd_109 : List tm_E := [(0, .iload_n 1, 1, 0, 0, 0), (1, .ifCond .lt 19, 3, 20, 0, 0), (4, .iload_n 1, 1, 0, 0, 0), (5, .bipush 20, 2, 0, 0, 0), (7, .if_icmp .gt 13, 3, 20, 0, 0), (10, .iload_n 2, 1, 0, 0, 0), (11, .ifCond .lt 9, 3, 20, 0, 0), (14, .iload_n 2, 1, 0, 0, 0), (15, .bipush 99, 2, 0, 0, 0), (17, .if_icmp .le 5, 3, 22, 0, 0), (20, .iconst 0, 1, 0, 0, 0), (21, .ireturn, 1, 0, 0, 0), (22, .aload_n 0, 1, 0, 0, 0), (23, .iload_n 1, 1, 0, 0, 0), (24, .putfield 74, 3, 11, 34, 0), (27, .aload_n 0, 1, 0, 0, 0), (28, .iload_n 2, 1, 0, 0, 0), (29, .putfield 77, 3, 11, 35, 0), (32, .iconst 1, 1, 0, 0, 0), (33, .ireturn, 1, 0, 0, 0)]
def cu_109 : List (Nat × List Nat) := [(20, [])]
def G_109 : tm_G := fun _ _ _ => none
noncomputable def F_109 : List Value → tm_M → Option tm_R := tm_m tm_sh none G_109 true cd_109 cu_109 21 3
theorem gg_109 : tm_Gg G_109 := fun _ _ _ _ h => by cases h
theorem gm_109 (l : Launch) : ∀ id as M r, G_109 id as M = some r → tm_MA tm_sh l (tm_mt id) as M r := fun _ _ _ _ h => by cases h
theorem gr_109 {as : List Value} {M : tm_M} {r : tm_R} (h : F_109 as M = some r) : tm_gr M r.2 := tm_m_gr gg_109 h
theorem ck_109 : tm_cdk (tm_mt 109).1.cls false tm_mt (tm_mt 109) true cd_109 := tm_cdk_of (LK := lk_RX11) (ix := [25, 26]) lc_RX11 (by decide +kernel)
theorem con_109 (l : Launch) {as : List Value} {M : tm_M} {r : tm_R} (h : F_109 as M = some r) : tm_MA tm_sh l (tm_mt 109) as M r := tm_sound (t := tm_mt 109) tm_Sok_ok tm_CL_ok gg_109 (gm_109 l) (fun _ _ => ⟨rfl, rfl⟩) ck_109 (by decide +kernel) (fun h => by cases h) (fun _ _ _ _ => tm_nos_all (by decide +kernel)) h
def cd_110 : List tm_E := [(0, .aload_n 0, 1, 0, 0, 0), (1, .iconst (-1), 1, 0, 0, 0), (2, .putfield 27, 3, 3, 3, 0), (5, .aload_n 0, 1, 0, 0, 0), (6, .iconst 0, 1, 0, 0, 0), (7, .putfield 30, 3, 3, 4, 3), (10, .aload_n 0, 1, 0, 0, 0), (11, .iconst 0, 1, 0, 0, 0), (12, .putfield 34, 3, 3, 5, 0), (15, .return_, 1, 0, 0, 0)]
def cu_110 : List (Nat × List Nat) := []
def G_110 : tm_G := fun _ _ _ => none
noncomputable def F_110 : List Value → tm_M → Option tm_R := tm_m tm_sh none G_110 false cd_110 cu_110 11 1
theorem gg_110 : tm_Gg G_110 := fun _ _ _ _ h => by cases h
theorem gm_110 (l : Launch) : ∀ id as M r, G_110 id as M = some r → tm_MA tm_sh l (tm_mt id) as M r := fun _ _ _ _ h => by cases h
theorem gr_110 {as : List Value} {M : tm_M} {r : tm_R} (h : F_110 as M = some r) : tm_gr M r.2 := tm_m_gr gg_110 h
theorem ck_110 : tm_cdk (tm_mt 110).1.cls false tm_mt (tm_mt 110) false cd_110 := tm_cdk_of (LK := lk_RX3) (ix := [1, 2, 3]) lc_RX3 (by decide +kernel)
theorem con_110 (l : Launch) {as : List Value} {M : tm_M} {r : tm_R} (h : F_110 as M = some r) : tm_MA tm_sh l (tm_mt 110) as M r := tm_sound (t := tm_mt 110) tm_Sok_ok tm_CL_ok gg_110 (gm_110 l) (fun _ _ => ⟨rfl, rfl⟩) ck_110 (by decide +kernel) (fun h => by cases h) (fun _ _ _ _ => tm_nos_all (by decide +kernel)) h
def cd_111 : List tm_E := [(0, .aload_n 0, 1, 0, 0, 0), (1, .iload_n 1, 1, 0, 0, 0), (2, .putfield 9, 3, 3, 0, 0), (5, .aload_n 0, 1, 0, 0, 0), (6, .iconst 0, 1, 0, 0, 0), (7, .putfield 15, 3, 3, 1, 0), (10, .aload_n 0, 1, 0, 0, 0), (11, .iconst 0, 1, 0, 0, 0), (12, .putfield 18, 3, 3, 2, 0), (15, .aload_n 0, 1, 0, 0, 0), (16, .iconst 0, 1, 0, 0, 0), (17, .putfield 21, 3, 3, 6, 0), (20, .aload_n 0, 1, 0, 0, 0), (21, .invokevirtual 24, 3, 110, 0, 12), (24, .return_, 1, 0, 0, 0)]
def cu_111 : List (Nat × List Nat) := [(24, [])]
noncomputable def G_111 : tm_G := fun id as M => if id = 110 then F_110 as M else none
noncomputable def F_111 : List Value → tm_M → Option tm_R := tm_m tm_sh none G_111 false cd_111 cu_111 16 2
theorem gg_111 : tm_Gg G_111 := by
  intro id as M r h
  unfold G_111 at h
  rcases tm_ite_e h with ⟨_, h⟩ | ⟨_, h⟩
  · exact gr_110 h
  cases h
theorem gm_111 (l : Launch) : ∀ id as M r, G_111 id as M = some r → tm_MA tm_sh l (tm_mt id) as M r := by
  intro id as M r h
  unfold G_111 at h
  rcases tm_ite_e h with ⟨rfl, h⟩ | ⟨_, h⟩
  · exact con_110 l h
  cases h
theorem gr_111 {as : List Value} {M : tm_M} {r : tm_R} (h : F_111 as M = some r) : tm_gr M r.2 := tm_m_gr gg_111 h
theorem ck_111 : tm_cdk (tm_mt 111).1.cls false tm_mt (tm_mt 111) false cd_111 := tm_cdk_of (LK := lk_RX3) (ix := [4, 5, 6, 7, 8]) lc_RX3 (by decide +kernel)
theorem con_111 (l : Launch) {as : List Value} {M : tm_M} {r : tm_R} (h : F_111 as M = some r) : tm_MA tm_sh l (tm_mt 111) as M r := tm_sound (t := tm_mt 111) tm_Sok_ok tm_CL_ok gg_111 (gm_111 l) (fun _ _ => ⟨rfl, rfl⟩) ck_111 (by decide +kernel) (fun h => by cases h) (fun _ _ _ _ => tm_nos_all (by decide +kernel)) h
def cd_112 : List tm_E := [(0, .iconst 0, 1, 0, 0, 0), (1, .istore_n 1, 1, 0, 0, 0), (2, .iload_n 1, 1, 0, 0, 0), (3, .bipush 6, 2, 0, 0, 0), (5, .if_icmp .ge 30, 3, 35, 0, 0), (8, .aload_n 0, 1, 0, 0, 0), (9, .getfield 20, 3, 9, 1, 2), (12, .iload_n 1, 1, 0, 0, 0), (13, .aaload, 1, 0, 0, 0), (14, .iload_n 1, 1, 0, 0, 0), (15, .iconst 2, 1, 0, 0, 0), (16, .if_icmp .ge 9, 3, 25, 0, 0), (19, .iconst 2, 1, 0, 0, 0), (20, .iload_n 1, 1, 0, 0, 0), (21, .iadd, 1, 0, 0, 0), (22, .goto 4, 3, 26, 0, 0), (25, .iconst 0, 1, 0, 0, 0), (26, .invokevirtual 66, 3, 111, 1, 12), (29, .iinc 1 1, 3, 0, 0, 0), (32, .goto (-30), 3, 2, 0, 0), (35, .iconst 0, 1, 0, 0, 0), (36, .istore_n 1, 1, 0, 0, 0), (37, .iload_n 1, 1, 0, 0, 0), (38, .iconst 2, 1, 0, 0, 0), (39, .if_icmp .ge 23, 3, 62, 0, 0), (42, .aload_n 0, 1, 0, 0, 0), (43, .getfield 24, 3, 9, 2, 2), (46, .iload_n 1, 1, 0, 0, 0), (47, .iload_n 1, 1, 0, 0, 0), (48, .iastore, 1, 0, 0, 0), (49, .aload_n 0, 1, 0, 0, 0), (50, .getfield 28, 3, 9, 3, 2), (53, .iload_n 1, 1, 0, 0, 0), (54, .iconst (-1), 1, 0, 0, 0), (55, .iastore, 1, 0, 0, 0), (56, .iinc 1 1, 3, 0, 0, 0), (59, .goto (-22), 3, 37, 0, 0), (62, .aload_n 0, 1, 0, 0, 0), (63, .iconst 0, 1, 0, 0, 0), (64, .putfield 69, 3, 9, 5, 0), (67, .return_, 1, 0, 0, 0)]
def cu_112 : List (Nat × List Nat) := [(2, [0, 1]), (26, [0, 1]), (29, [0, 1]), (37, [0, 1])]
noncomputable def G_112 : tm_G := fun id as M => if id = 111 then F_111 as M else none
noncomputable def F_112 : List Value → tm_M → Option tm_R := tm_m tm_sh none G_112 false cd_112 cu_112 42 2
theorem gg_112 : tm_Gg G_112 := by
  intro id as M r h
  unfold G_112 at h
  rcases tm_ite_e h with ⟨_, h⟩ | ⟨_, h⟩
  · exact gr_111 h
  cases h
theorem gm_112 (l : Launch) : ∀ id as M r, G_112 id as M = some r → tm_MA tm_sh l (tm_mt id) as M r := by
  intro id as M r h
  unfold G_112 at h
  rcases tm_ite_e h with ⟨rfl, h⟩ | ⟨_, h⟩
  · exact con_111 l h
  cases h
theorem gr_112 {as : List Value} {M : tm_M} {r : tm_R} (h : F_112 as M = some r) : tm_gr M r.2 := tm_m_gr gg_112 h
theorem ck_112 : tm_cdk (tm_mt 112).1.cls false tm_mt (tm_mt 112) false cd_112 := tm_cdk_of (LK := lk_RX9) (ix := [11, 14, 15, 16, 17]) lc_RX9 (by decide +kernel)
theorem con_112 (l : Launch) {as : List Value} {M : tm_M} {r : tm_R} (h : F_112 as M = some r) : tm_MA tm_sh l (tm_mt 112) as M r := tm_sound (t := tm_mt 112) tm_Sok_ok tm_CL_ok gg_112 (gm_112 l) (fun _ _ => ⟨rfl, rfl⟩) ck_112 (by decide +kernel) (fun h => by cases h) (fun _ _ _ _ => tm_nos_all (by decide +kernel)) h
def cd_113 : List tm_E := [(0, .aload_n 0, 1, 0, 0, 0), (1, .iconst 1, 1, 0, 0, 0), (2, .putfield 29, 3, 4, 5, 3), (5, .aload_n 0, 1, 0, 0, 0), (6, .iload_n 1, 1, 0, 0, 0), (7, .sipush 200, 3, 0, 0, 0), (10, .invokestatic 37, 3, 9004, 2, 1), (13, .putfield 33, 3, 4, 6, 0), (16, .aload_n 0, 1, 0, 0, 0), (17, .iconst 0, 1, 0, 0, 0), (18, .putfield 43, 3, 4, 7, 0), (21, .aload_n 0, 1, 0, 0, 0), (22, .iconst 0, 1, 0, 0, 0), (23, .putfield 46, 3, 4, 8, 0), (26, .aload_n 0, 1, 0, 0, 0), (27, .iconst 0, 1, 0, 0, 0), (28, .putfield 49, 3, 4, 9, 0), (31, .aload_n 0, 1, 0, 0, 0), (32, .iconst 0, 1, 0, 0, 0), (33, .putfield 52, 3, 4, 10, 0), (36, .aload_n 0, 1, 0, 0, 0), (37, .getfield 26, 3, 4, 4, 2), (40, .iconst 0, 1, 0, 0, 0), (41, .invokestatic 55, 3, 33, 2, 0), (44, .return_, 1, 0, 0, 0)]
def cu_113 : List (Nat × List Nat) := [(44, [])]
noncomputable def G_113 : tm_G := fun id as M => if id = 33 then F_33 as M else none
noncomputable def F_113 : List Value → tm_M → Option tm_R := tm_m tm_sh none G_113 false cd_113 cu_113 26 2
theorem gg_113 : tm_Gg G_113 := by
  intro id as M r h
  unfold G_113 at h
  rcases tm_ite_e h with ⟨_, h⟩ | ⟨_, h⟩
  · exact gr_33 h
  cases h
theorem gm_113 (l : Launch) : ∀ id as M r, G_113 id as M = some r → tm_MA tm_sh l (tm_mt id) as M r := by
  intro id as M r h
  unfold G_113 at h
  rcases tm_ite_e h with ⟨rfl, h⟩ | ⟨_, h⟩
  · exact con_33 l h
  cases h
theorem gr_113 {as : List Value} {M : tm_M} {r : tm_R} (h : F_113 as M = some r) : tm_gr M r.2 := tm_m_gr gg_113 h
theorem ck_113 : tm_cdk (tm_mt 113).1.cls false tm_mt (tm_mt 113) false cd_113 := tm_cdk_of (LK := lk_RX4) (ix := [7, 9, 8, 10, 11, 12, 13, 14, 15]) lc_RX4 (by decide +kernel)
theorem con_113 (l : Launch) {as : List Value} {M : tm_M} {r : tm_R} (h : F_113 as M = some r) : tm_MA tm_sh l (tm_mt 113) as M r := tm_sound (t := tm_mt 113) tm_Sok_ok tm_CL_ok gg_113 (gm_113 l) (fun _ _ => ⟨rfl, rfl⟩) ck_113 (by decide +kernel) (fun h => by cases h) (fun _ _ _ _ => tm_nos_all (by decide +kernel)) h
def cd_114 : List tm_E := [(0, .iload_n 0, 1, 0, 0, 0), (1, .ifCond .lt 13, 3, 14, 0, 0), (4, .iload_n 0, 1, 0, 0, 0), (5, .bipush 6, 2, 0, 0, 0), (7, .if_icmp .ge 7, 3, 14, 0, 0), (10, .iconst 1, 1, 0, 0, 0), (11, .goto 4, 3, 15, 0, 0), (14, .iconst 0, 1, 0, 0, 0), (15, .ireturn, 1, 0, 0, 0)]
def cu_114 : List (Nat × List Nat) := [(14, []), (15, [])]
def G_114 : tm_G := fun _ _ _ => none
noncomputable def F_114 : List Value → tm_M → Option tm_R := tm_m tm_sh none G_114 true cd_114 cu_114 10 1
theorem gg_114 : tm_Gg G_114 := fun _ _ _ _ h => by cases h
theorem gm_114 (l : Launch) : ∀ id as M r, G_114 id as M = some r → tm_MA tm_sh l (tm_mt id) as M r := fun _ _ _ _ h => by cases h
theorem gr_114 {as : List Value} {M : tm_M} {r : tm_R} (h : F_114 as M = some r) : tm_gr M r.2 := tm_m_gr gg_114 h
theorem ck_114 : tm_cdk (tm_mt 114).1.cls false tm_mt (tm_mt 114) true cd_114 := tm_cdk_of (LK := lk_RX10) (ix := []) lc_RX10 (by decide +kernel)
theorem con_114 (l : Launch) {as : List Value} {M : tm_M} {r : tm_R} (h : F_114 as M = some r) : tm_MA tm_sh l (tm_mt 114) as M r := tm_sound (t := tm_mt 114) tm_Sok_ok tm_CL_ok gg_114 (gm_114 l) (fun _ _ => ⟨rfl, rfl⟩) ck_114 (by decide +kernel) (fun h => by cases h) (fun _ _ _ _ => tm_nos_all (by decide +kernel)) h
def cd_115 : List tm_E := [(0, .iconst 0, 1, 0, 0, 0), (1, .istore_n 1, 1, 0, 0, 0), (2, .iconst 0, 1, 0, 0, 0), (3, .istore_n 2, 1, 0, 0, 0), (4, .iload_n 2, 1, 0, 0, 0), (5, .bipush 6, 2, 0, 0, 0), (7, .if_icmp .ge 25, 3, 32, 0, 0), (10, .aload_n 0, 1, 0, 0, 0), (11, .getfield 20, 3, 9, 1, 2), (14, .iload_n 2, 1, 0, 0, 0), (15, .aaload, 1, 0, 0, 0), (16, .getfield 108, 3, 3, 0, 0), (19, .iconst 1, 1, 0, 0, 0), (20, .if_icmp .ne 6, 3, 26, 0, 0), (23, .iinc 1 1, 3, 0, 0, 0), (26, .iinc 2 1, 3, 0, 0, 0), (29, .goto (-25), 3, 4, 0, 0), (32, .iload_n 1, 1, 0, 0, 0), (33, .ireturn, 1, 0, 0, 0)]
def cu_115 : List (Nat × List Nat) := [(4, [0, 1, 2]), (26, [0, 1, 2])]
def G_115 : tm_G := fun _ _ _ => none
noncomputable def F_115 : List Value → tm_M → Option tm_R := tm_m tm_sh none G_115 false cd_115 cu_115 20 3
theorem gg_115 : tm_Gg G_115 := fun _ _ _ _ h => by cases h
theorem gm_115 (l : Launch) : ∀ id as M r, G_115 id as M = some r → tm_MA tm_sh l (tm_mt id) as M r := fun _ _ _ _ h => by cases h
theorem gr_115 {as : List Value} {M : tm_M} {r : tm_R} (h : F_115 as M = some r) : tm_gr M r.2 := tm_m_gr gg_115 h
theorem ck_115 : tm_cdk (tm_mt 115).1.cls false tm_mt (tm_mt 115) false cd_115 := tm_cdk_of (LK := lk_RX9) (ix := [11, 18]) lc_RX9 (by decide +kernel)
theorem con_115 (l : Launch) {as : List Value} {M : tm_M} {r : tm_R} (h : F_115 as M = some r) : tm_MA tm_sh l (tm_mt 115) as M r := tm_sound (t := tm_mt 115) tm_Sok_ok tm_CL_ok gg_115 (gm_115 l) (fun _ _ => ⟨rfl, rfl⟩) ck_115 (by decide +kernel) (fun h => by cases h) (fun _ _ _ _ => tm_nos_all (by decide +kernel)) h
def cd_116 : List tm_E := [(0, .aload_n 0, 1, 0, 0, 0), (1, .getfield 9, 3, 3, 0, 0), (4, .iconst 1, 1, 0, 0, 0), (5, .if_icmp .ne 15, 3, 20, 0, 0), (8, .aload_n 0, 1, 0, 0, 0), (9, .getfield 27, 3, 3, 3, 0), (12, .iconst (-1), 1, 0, 0, 0), (13, .if_icmp .eq 7, 3, 20, 0, 0), (16, .iconst 1, 1, 0, 0, 0), (17, .goto 4, 3, 21, 0, 0), (20, .iconst 0, 1, 0, 0, 0), (21, .ireturn, 1, 0, 0, 0)]
def cu_116 : List (Nat × List Nat) := [(20, []), (21, [])]
def G_116 : tm_G := fun _ _ _ => none
noncomputable def F_116 : List Value → tm_M → Option tm_R := tm_m tm_sh none G_116 true cd_116 cu_116 13 1
theorem gg_116 : tm_Gg G_116 := fun _ _ _ _ h => by cases h
theorem gm_116 (l : Launch) : ∀ id as M r, G_116 id as M = some r → tm_MA tm_sh l (tm_mt id) as M r := fun _ _ _ _ h => by cases h
theorem gr_116 {as : List Value} {M : tm_M} {r : tm_R} (h : F_116 as M = some r) : tm_gr M r.2 := tm_m_gr gg_116 h
theorem ck_116 : tm_cdk (tm_mt 116).1.cls false tm_mt (tm_mt 116) true cd_116 := tm_cdk_of (LK := lk_RX3) (ix := [9, 10]) lc_RX3 (by decide +kernel)
theorem con_116 (l : Launch) {as : List Value} {M : tm_M} {r : tm_R} (h : F_116 as M = some r) : tm_MA tm_sh l (tm_mt 116) as M r := tm_sound (t := tm_mt 116) tm_Sok_ok tm_CL_ok gg_116 (gm_116 l) (fun _ _ => ⟨rfl, rfl⟩) ck_116 (by decide +kernel) (fun h => by cases h) (fun _ _ _ _ => tm_nos_all (by decide +kernel)) h
def cd_117 : List tm_E := [(0, .iconst 0, 1, 0, 0, 0), (1, .istore_n 2, 1, 0, 0, 0), (2, .iload_n 2, 1, 0, 0, 0), (3, .bipush 6, 2, 0, 0, 0), (5, .if_icmp .ge 51, 3, 56, 0, 0), (8, .aload_n 0, 1, 0, 0, 0), (9, .getfield 20, 3, 9, 1, 2), (12, .iload_n 2, 1, 0, 0, 0), (13, .aaload, 1, 0, 0, 0), (14, .astore_n 3, 1, 0, 0, 0), (15, .aload_n 3, 1, 0, 0, 0), (16, .invokevirtual 151, 3, 116, 0, 13), (19, .ifCond .eq 31, 3, 50, 0, 0), (22, .aload_n 1, 1, 0, 0, 0), (23, .aload_n 3, 1, 0, 0, 0), (24, .getfield 154, 3, 3, 3, 0), (27, .invokevirtual 126, 3, 84, 1, 1), (30, .ifCond .eq 20, 3, 50, 0, 0), (33, .aload_n 1, 1, 0, 0, 0), (34, .getfield 131, 3, 0, 0, 2), (37, .aload_n 3, 1, 0, 0, 0), (38, .getfield 154, 3, 3, 3, 0), (41, .aaload, 1, 0, 0, 0), (42, .getfield 144, 3, 8, 8, 0), (45, .ifCond .eq 5, 3, 50, 0, 0), (48, .iconst 1, 1, 0, 0, 0), (49, .ireturn, 1, 0, 0, 0), (50, .iinc 2 1, 3, 0, 0, 0), (53, .goto (-51), 3, 2, 0, 0), (56, .iconst 0, 1, 0, 0, 0), (57, .ireturn, 1, 0, 0, 0)]
def cu_117 : List (Nat × List Nat) := [(2, [0, 1, 2]), (19, [0, 1, 2, 3]), (30, [0, 1, 2, 3]), (50, [0, 1, 2])]
noncomputable def G_117 : tm_G := fun id as M => if id = 116 then F_116 as M else if id = 84 then F_84 as M else none
noncomputable def F_117 : List Value → tm_M → Option tm_R := tm_m tm_sh none G_117 true cd_117 cu_117 32 4
theorem gg_117 : tm_Gg G_117 := by
  intro id as M r h
  unfold G_117 at h
  rcases tm_ite_e h with ⟨_, h⟩ | ⟨_, h⟩
  · exact gr_116 h
  rcases tm_ite_e h with ⟨_, h⟩ | ⟨_, h⟩
  · exact gr_84 h
  cases h
theorem gm_117 (l : Launch) : ∀ id as M r, G_117 id as M = some r → tm_MA tm_sh l (tm_mt id) as M r := by
  intro id as M r h
  unfold G_117 at h
  rcases tm_ite_e h with ⟨rfl, h⟩ | ⟨_, h⟩
  · exact con_116 l h
  rcases tm_ite_e h with ⟨rfl, h⟩ | ⟨_, h⟩
  · exact con_84 l h
  cases h
theorem gr_117 {as : List Value} {M : tm_M} {r : tm_R} (h : F_117 as M = some r) : tm_gr M r.2 := tm_m_gr gg_117 h
theorem ck_117 : tm_cdk (tm_mt 117).1.cls false tm_mt (tm_mt 117) true cd_117 := tm_cdk_of (LK := lk_RX9) (ix := [11, 19, 20, 21, 22, 20, 23]) lc_RX9 (by decide +kernel)
theorem con_117 (l : Launch) {as : List Value} {M : tm_M} {r : tm_R} (h : F_117 as M = some r) : tm_MA tm_sh l (tm_mt 117) as M r := tm_sound (t := tm_mt 117) tm_Sok_ok tm_CL_ok gg_117 (gm_117 l) (fun _ _ => ⟨rfl, rfl⟩) ck_117 (by decide +kernel) (fun h => by cases h) (fun _ _ _ _ => tm_nos_all (by decide +kernel)) h
def cd_118 : List tm_E := [(0, .aload_n 2, 1, 0, 0, 0), (1, .getfield 108, 3, 3, 0, 0), (4, .ifCond .eq 5, 3, 9, 0, 0), (7, .iconst 1, 1, 0, 0, 0), (8, .ireturn, 1, 0, 0, 0), (9, .aload_n 0, 1, 0, 0, 0), (10, .invokevirtual 111, 3, 115, 0, 37), (13, .iconst 3, 1, 0, 0, 0), (14, .if_icmp .lt 5, 3, 19, 0, 0), (17, .iconst 2, 1, 0, 0, 0), (18, .ireturn, 1, 0, 0, 0), (19, .aload_n 0, 1, 0, 0, 0), (20, .getfield 69, 3, 9, 5, 0), (23, .iconst 1, 1, 0, 0, 0), (24, .if_icmp .eq 19, 3, 43, 0, 0), (27, .aload_n 0, 1, 0, 0, 0), (28, .getfield 69, 3, 9, 5, 0), (31, .iload_n 3, 1, 0, 0, 0), (32, .ifCond .ne 7, 3, 39, 0, 0), (35, .iconst 2, 1, 0, 0, 0), (36, .goto 4, 3, 40, 0, 0), (39, .iconst 3, 1, 0, 0, 0), (40, .if_icmp .ne 5, 3, 45, 0, 0), (43, .iconst 3, 1, 0, 0, 0), (44, .ireturn, 1, 0, 0, 0), (45, .aload_n 0, 1, 0, 0, 0), (46, .aload_n 1, 1, 0, 0, 0), (47, .invokevirtual 115, 3, 117, 1, 37), (50, .ifCond .eq 6, 3, 56, 0, 0), (53, .bipush 6, 2, 0, 0, 0), (55, .ireturn, 1, 0, 0, 0), (56, .aload_n 2, 1, 0, 0, 0), (57, .iconst 1, 1, 0, 0, 0), (58, .invokevirtual 66, 3, 111, 1, 12), (61, .aload_n 2, 1, 0, 0, 0), (62, .iload_n 3, 1, 0, 0, 0), (63, .ifCond .ne 7, 3, 70, 0, 0), (66, .iconst 1, 1, 0, 0, 0), (67, .goto 4, 3, 71, 0, 0), (70, .iconst 2, 1, 0, 0, 0), (71, .putfield 119, 3, 3, 1, 0), (74, .iconst 0, 1, 0, 0, 0), (75, .ireturn, 1, 0, 0, 0)]
def cu_118 : List (Nat × List Nat) := [(13, [0, 1, 2, 3]), (40, [0, 1, 2, 3]), (43, []), (50, [2, 3]), (61, [2, 3]), (71, [])]
noncomputable def G_118 : tm_G := fun id as M => if id = 115 then F_115 as M else if id = 117 then F_117 as M else if id = 111 then F_111 as M else none
noncomputable def F_118 : List Value → tm_M → Option tm_R := tm_m tm_sh none G_118 false cd_118 cu_118 44 4
theorem gg_118 : tm_Gg G_118 := by
  intro id as M r h
  unfold G_118 at h
  rcases tm_ite_e h with ⟨_, h⟩ | ⟨_, h⟩
  · exact gr_115 h
  rcases tm_ite_e h with ⟨_, h⟩ | ⟨_, h⟩
  · exact gr_117 h
  rcases tm_ite_e h with ⟨_, h⟩ | ⟨_, h⟩
  · exact gr_111 h
  cases h
theorem gm_118 (l : Launch) : ∀ id as M r, G_118 id as M = some r → tm_MA tm_sh l (tm_mt id) as M r := by
  intro id as M r h
  unfold G_118 at h
  rcases tm_ite_e h with ⟨rfl, h⟩ | ⟨_, h⟩
  · exact con_115 l h
  rcases tm_ite_e h with ⟨rfl, h⟩ | ⟨_, h⟩
  · exact con_117 l h
  rcases tm_ite_e h with ⟨rfl, h⟩ | ⟨_, h⟩
  · exact con_111 l h
  cases h
theorem gr_118 {as : List Value} {M : tm_M} {r : tm_R} (h : F_118 as M = some r) : tm_gr M r.2 := tm_m_gr gg_118 h
theorem ck_118 : tm_cdk (tm_mt 118).1.cls false tm_mt (tm_mt 118) false cd_118 := tm_cdk_of (LK := lk_RX9) (ix := [18, 24, 25, 25, 26, 14, 27]) lc_RX9 (by decide +kernel)
theorem con_118 (l : Launch) {as : List Value} {M : tm_M} {r : tm_R} (h : F_118 as M = some r) : tm_MA tm_sh l (tm_mt 118) as M r := tm_sound (t := tm_mt 118) tm_Sok_ok tm_CL_ok gg_118 (gm_118 l) (fun _ _ => ⟨rfl, rfl⟩) ck_118 (by decide +kernel) (fun h => by cases h) (fun _ _ _ _ => tm_nos_all (by decide +kernel)) h
def cd_119 : List tm_E := [(0, .aload_n 0, 1, 0, 0, 0), (1, .getfield 9, 3, 3, 0, 0), (4, .iconst 1, 1, 0, 0, 0), (5, .if_icmp .ne 15, 3, 20, 0, 0), (8, .aload_n 0, 1, 0, 0, 0), (9, .getfield 27, 3, 3, 3, 0), (12, .iconst (-1), 1, 0, 0, 0), (13, .if_icmp .ne 7, 3, 20, 0, 0), (16, .iconst 1, 1, 0, 0, 0), (17, .goto 4, 3, 21, 0, 0), (20, .iconst 0, 1, 0, 0, 0), (21, .ireturn, 1, 0, 0, 0)]
def cu_119 : List (Nat × List Nat) := [(20, []), (21, [])]
def G_119 : tm_G := fun _ _ _ => none
noncomputable def F_119 : List Value → tm_M → Option tm_R := tm_m tm_sh none G_119 true cd_119 cu_119 13 1
theorem gg_119 : tm_Gg G_119 := fun _ _ _ _ h => by cases h
theorem gm_119 (l : Launch) : ∀ id as M r, G_119 id as M = some r → tm_MA tm_sh l (tm_mt id) as M r := fun _ _ _ _ h => by cases h
theorem gr_119 {as : List Value} {M : tm_M} {r : tm_R} (h : F_119 as M = some r) : tm_gr M r.2 := tm_m_gr gg_119 h
theorem ck_119 : tm_cdk (tm_mt 119).1.cls false tm_mt (tm_mt 119) true cd_119 := tm_cdk_of (LK := lk_RX3) (ix := [9, 10]) lc_RX3 (by decide +kernel)
theorem con_119 (l : Launch) {as : List Value} {M : tm_M} {r : tm_R} (h : F_119 as M = some r) : tm_MA tm_sh l (tm_mt 119) as M r := tm_sound (t := tm_mt 119) tm_Sok_ok tm_CL_ok gg_119 (gm_119 l) (fun _ _ => ⟨rfl, rfl⟩) ck_119 (by decide +kernel) (fun h => by cases h) (fun _ _ _ _ => tm_nos_all (by decide +kernel)) h
def cd_120 : List tm_E := [(0, .aload_n 1, 1, 0, 0, 0), (1, .invokevirtual 122, 3, 119, 0, 13), (4, .ifCond .ne 5, 3, 9, 0, 0), (7, .iconst 1, 1, 0, 0, 0), (8, .ireturn, 1, 0, 0, 0), (9, .aload_n 1, 1, 0, 0, 0), (10, .getfield 119, 3, 3, 1, 0), (13, .iload_n 2, 1, 0, 0, 0), (14, .ifCond .ne 7, 3, 21, 0, 0), (17, .iconst 2, 1, 0, 0, 0), (18, .goto 4, 3, 22, 0, 0), (21, .iconst 1, 1, 0, 0, 0), (22, .if_icmp .ne 5, 3, 27, 0, 0), (25, .iconst 4, 1, 0, 0, 0), (26, .ireturn, 1, 0, 0, 0), (27, .aload_n 1, 1, 0, 0, 0), (28, .iconst 0, 1, 0, 0, 0), (29, .invokevirtual 66, 3, 111, 1, 12), (32, .iconst 0, 1, 0, 0, 0), (33, .ireturn, 1, 0, 0, 0)]
def cu_120 : List (Nat × List Nat) := [(4, [1, 2]), (22, [1]), (32, [])]
noncomputable def G_120 : tm_G := fun id as M => if id = 119 then F_119 as M else if id = 111 then F_111 as M else none
noncomputable def F_120 : List Value → tm_M → Option tm_R := tm_m tm_sh none G_120 false cd_120 cu_120 21 3
theorem gg_120 : tm_Gg G_120 := by
  intro id as M r h
  unfold G_120 at h
  rcases tm_ite_e h with ⟨_, h⟩ | ⟨_, h⟩
  · exact gr_119 h
  rcases tm_ite_e h with ⟨_, h⟩ | ⟨_, h⟩
  · exact gr_111 h
  cases h
theorem gm_120 (l : Launch) : ∀ id as M r, G_120 id as M = some r → tm_MA tm_sh l (tm_mt id) as M r := by
  intro id as M r h
  unfold G_120 at h
  rcases tm_ite_e h with ⟨rfl, h⟩ | ⟨_, h⟩
  · exact con_119 l h
  rcases tm_ite_e h with ⟨rfl, h⟩ | ⟨_, h⟩
  · exact con_111 l h
  cases h
theorem gr_120 {as : List Value} {M : tm_M} {r : tm_R} (h : F_120 as M = some r) : tm_gr M r.2 := tm_m_gr gg_120 h
theorem ck_120 : tm_cdk (tm_mt 120).1.cls false tm_mt (tm_mt 120) false cd_120 := tm_cdk_of (LK := lk_RX9) (ix := [28, 29, 14]) lc_RX9 (by decide +kernel)
theorem con_120 (l : Launch) {as : List Value} {M : tm_M} {r : tm_R} (h : F_120 as M = some r) : tm_MA tm_sh l (tm_mt 120) as M r := tm_sound (t := tm_mt 120) tm_Sok_ok tm_CL_ok gg_120 (gm_120 l) (fun _ _ => ⟨rfl, rfl⟩) ck_120 (by decide +kernel) (fun h => by cases h) (fun _ _ _ _ => tm_nos_all (by decide +kernel)) h
def cd_121 : List tm_E := [(0, .aload_n 0, 1, 0, 0, 0), (1, .iload_n 3, 1, 0, 0, 0), (2, .invokevirtual 67, 3, 87, 1, 33), (5, .istore 4, 2, 0, 0, 0), (7, .iload 4, 2, 0, 0, 0), (9, .ifCond .eq 9, 3, 18, 0, 0), (12, .iload 4, 2, 0, 0, 0), (14, .iload_n 1, 1, 0, 0, 0), (15, .if_icmp .ne 23, 3, 38, 0, 0), (18, .aload_n 0, 1, 0, 0, 0), (19, .getfield 35, 3, 8, 7, 0), (22, .iconst (-1), 1, 0, 0, 0), (23, .if_icmp .eq 11, 3, 34, 0, 0), (26, .aload_n 0, 1, 0, 0, 0), (27, .getfield 35, 3, 8, 7, 0), (30, .iload_n 2, 1, 0, 0, 0), (31, .if_icmp .ne 7, 3, 38, 0, 0), (34, .iconst 1, 1, 0, 0, 0), (35, .goto 4, 3, 39, 0, 0), (38, .iconst 0, 1, 0, 0, 0), (39, .ireturn, 1, 0, 0, 0)]
def cu_121 : List (Nat × List Nat) := [(5, [0, 1, 2]), (18, [0, 2]), (34, []), (38, []), (39, [])]
noncomputable def G_121 : tm_G := fun id as M => if id = 87 then F_87 as M else none
noncomputable def F_121 : List Value → tm_M → Option tm_R := tm_m tm_sh none G_121 true cd_121 cu_121 22 5
theorem gg_121 : tm_Gg G_121 := by
  intro id as M r h
  unfold G_121 at h
  rcases tm_ite_e h with ⟨_, h⟩ | ⟨_, h⟩
  · exact gr_87 h
  cases h
theorem gm_121 (l : Launch) : ∀ id as M r, G_121 id as M = some r → tm_MA tm_sh l (tm_mt id) as M r := by
  intro id as M r h
  unfold G_121 at h
  rcases tm_ite_e h with ⟨rfl, h⟩ | ⟨_, h⟩
  · exact con_87 l h
  cases h
theorem gr_121 {as : List Value} {M : tm_M} {r : tm_R} (h : F_121 as M = some r) : tm_gr M r.2 := tm_m_gr gg_121 h
theorem ck_121 : tm_cdk (tm_mt 121).1.cls false tm_mt (tm_mt 121) true cd_121 := tm_cdk_of (LK := lk_RX8) (ix := [24, 25, 25]) lc_RX8 (by decide +kernel)
theorem con_121 (l : Launch) {as : List Value} {M : tm_M} {r : tm_R} (h : F_121 as M = some r) : tm_MA tm_sh l (tm_mt 121) as M r := tm_sound (t := tm_mt 121) tm_Sok_ok tm_CL_ok gg_121 (gm_121 l) (fun _ _ => ⟨rfl, rfl⟩) ck_121 (by decide +kernel) (fun h => by cases h) (fun _ _ _ _ => tm_nos_all (by decide +kernel)) h
def cd_122 : List tm_E := [(0, .aload_n 0, 1, 0, 0, 0), (1, .iload_n 1, 1, 0, 0, 0), (2, .putfield 27, 3, 3, 3, 0), (5, .aload_n 0, 1, 0, 0, 0), (6, .iload_n 2, 1, 0, 0, 0), (7, .putfield 30, 3, 3, 4, 3), (10, .aload_n 0, 1, 0, 0, 0), (11, .iload_n 3, 1, 0, 0, 0), (12, .putfield 34, 3, 3, 5, 0), (15, .return_, 1, 0, 0, 0)]
def cu_122 : List (Nat × List Nat) := []
def G_122 : tm_G := fun _ _ _ => none
noncomputable def F_122 : List Value → tm_M → Option tm_R := tm_m tm_sh none G_122 false cd_122 cu_122 11 4
theorem gg_122 : tm_Gg G_122 := fun _ _ _ _ h => by cases h
theorem gm_122 (l : Launch) : ∀ id as M r, G_122 id as M = some r → tm_MA tm_sh l (tm_mt id) as M r := fun _ _ _ _ h => by cases h
theorem gr_122 {as : List Value} {M : tm_M} {r : tm_R} (h : F_122 as M = some r) : tm_gr M r.2 := tm_m_gr gg_122 h
theorem ck_122 : tm_cdk (tm_mt 122).1.cls false tm_mt (tm_mt 122) false cd_122 := tm_cdk_of (LK := lk_RX3) (ix := [1, 2, 3]) lc_RX3 (by decide +kernel)
theorem con_122 (l : Launch) {as : List Value} {M : tm_M} {r : tm_R} (h : F_122 as M = some r) : tm_MA tm_sh l (tm_mt 122) as M r := tm_sound (t := tm_mt 122) tm_Sok_ok tm_CL_ok gg_122 (gm_122 l) (fun _ _ => ⟨rfl, rfl⟩) ck_122 (by decide +kernel) (fun h => by cases h) (fun _ _ _ _ => tm_nos_all (by decide +kernel)) h
def cd_123 : List tm_E := [(0, .aload_n 2, 1, 0, 0, 0), (1, .invokevirtual 122, 3, 119, 0, 13), (4, .ifCond .eq 11, 3, 15, 0, 0), (7, .aload_n 1, 1, 0, 0, 0), (8, .iload_n 3, 1, 0, 0, 0), (9, .invokevirtual 126, 3, 84, 1, 1), (12, .ifCond .ne 5, 3, 17, 0, 0), (15, .iconst 1, 1, 0, 0, 0), (16, .ireturn, 1, 0, 0, 0), (17, .aload_n 1, 1, 0, 0, 0), (18, .getfield 131, 3, 0, 0, 2), (21, .iload_n 3, 1, 0, 0, 0), (22, .aaload, 1, 0, 0, 0), (23, .astore 6, 2, 0, 0, 0), (25, .aload 6, 2, 0, 0, 0), (27, .aload_n 2, 1, 0, 0, 0), (28, .getfield 119, 3, 3, 1, 0), (31, .aload_n 2, 1, 0, 0, 0), (32, .getfield 135, 3, 3, 2, 0), (35, .iload 4, 2, 0, 0, 0), (37, .invokevirtual 138, 3, 121, 3, 33), (40, .ifCond .ne 5, 3, 45, 0, 0), (43, .iconst 5, 1, 0, 0, 0), (44, .ireturn, 1, 0, 0, 0), (45, .aload 6, 2, 0, 0, 0), (47, .getfield 144, 3, 8, 8, 0), (50, .ifCond .eq 14, 3, 64, 0, 0), (53, .aload_n 0, 1, 0, 0, 0), (54, .invokevirtual 111, 3, 115, 0, 37), (57, .iconst 1, 1, 0, 0, 0), (58, .if_icmp .le 6, 3, 64, 0, 0), (61, .bipush 6, 2, 0, 0, 0), (63, .ireturn, 1, 0, 0, 0), (64, .aload_n 2, 1, 0, 0, 0), (65, .iload_n 3, 1, 0, 0, 0), (66, .iload 4, 2, 0, 0, 0), (68, .iload 5, 2, 0, 0, 0), (70, .invokevirtual 148, 3, 122, 3, 12), (73, .iconst 0, 1, 0, 0, 0), (74, .ireturn, 1, 0, 0, 0)]
def cu_123 : List (Nat × List Nat) := [(4, [0, 1, 2, 3, 4, 5]), (12, [0, 1, 2, 3, 4, 5]), (15, []), (40, [0, 2, 3, 4, 5, 6]), (57, [2, 3, 4, 5]), (64, [2, 3, 4, 5]), (73, [])]
noncomputable def G_123 : tm_G := fun id as M => if id = 119 then F_119 as M else if id = 84 then F_84 as M else if id = 121 then F_121 as M else if id = 115 then F_115 as M else if id = 122 then F_122 as M else none
noncomputable def F_123 : List Value → tm_M → Option tm_R := tm_m tm_sh none G_123 false cd_123 cu_123 41 7
theorem gg_123 : tm_Gg G_123 := by
  intro id as M r h
  unfold G_123 at h
  rcases tm_ite_e h with ⟨_, h⟩ | ⟨_, h⟩
  · exact gr_119 h
  rcases tm_ite_e h with ⟨_, h⟩ | ⟨_, h⟩
  · exact gr_84 h
  rcases tm_ite_e h with ⟨_, h⟩ | ⟨_, h⟩
  · exact gr_121 h
  rcases tm_ite_e h with ⟨_, h⟩ | ⟨_, h⟩
  · exact gr_115 h
  rcases tm_ite_e h with ⟨_, h⟩ | ⟨_, h⟩
  · exact gr_122 h
  cases h
theorem gm_123 (l : Launch) : ∀ id as M r, G_123 id as M = some r → tm_MA tm_sh l (tm_mt id) as M r := by
  intro id as M r h
  unfold G_123 at h
  rcases tm_ite_e h with ⟨rfl, h⟩ | ⟨_, h⟩
  · exact con_119 l h
  rcases tm_ite_e h with ⟨rfl, h⟩ | ⟨_, h⟩
  · exact con_84 l h
  rcases tm_ite_e h with ⟨rfl, h⟩ | ⟨_, h⟩
  · exact con_121 l h
  rcases tm_ite_e h with ⟨rfl, h⟩ | ⟨_, h⟩
  · exact con_115 l h
  rcases tm_ite_e h with ⟨rfl, h⟩ | ⟨_, h⟩
  · exact con_122 l h
  cases h
theorem gr_123 {as : List Value} {M : tm_M} {r : tm_R} (h : F_123 as M = some r) : tm_gr M r.2 := tm_m_gr gg_123 h
theorem ck_123 : tm_cdk (tm_mt 123).1.cls false tm_mt (tm_mt 123) false cd_123 := tm_cdk_of (LK := lk_RX9) (ix := [28, 21, 22, 29, 30, 31, 23, 24, 32]) lc_RX9 (by decide +kernel)
theorem con_123 (l : Launch) {as : List Value} {M : tm_M} {r : tm_R} (h : F_123 as M = some r) : tm_MA tm_sh l (tm_mt 123) as M r := tm_sound (t := tm_mt 123) tm_Sok_ok tm_CL_ok gg_123 (gm_123 l) (fun _ _ => ⟨rfl, rfl⟩) ck_123 (by decide +kernel) (fun h => by cases h) (fun _ _ _ _ => tm_nos_all (by decide +kernel)) h
def cd_124 : List tm_E := [(0, .aload_n 0, 1, 0, 0, 0), (1, .getfield 20, 3, 9, 1, 2), (4, .iload_n 1, 1, 0, 0, 0), (5, .aaload, 1, 0, 0, 0), (6, .astore_n 3, 1, 0, 0, 0), (7, .aload_n 3, 1, 0, 0, 0), (8, .getfield 108, 3, 3, 0, 0), (11, .ifCond .eq 10, 3, 21, 0, 0), (14, .aload_n 3, 1, 0, 0, 0), (15, .invokevirtual 122, 3, 119, 0, 13), (18, .ifCond .eq 7, 3, 25, 0, 0), (21, .iconst 1, 1, 0, 0, 0), (22, .goto 4, 3, 26, 0, 0), (25, .iconst 0, 1, 0, 0, 0), (26, .istore 4, 2, 0, 0, 0), (28, .iload 4, 2, 0, 0, 0), (30, .ifCond .eq 22, 3, 52, 0, 0), (33, .iload_n 2, 1, 0, 0, 0), (34, .ifCond .lt 18, 3, 52, 0, 0), (37, .iload_n 2, 1, 0, 0, 0), (38, .iconst 1, 1, 0, 0, 0), (39, .if_icmp .gt 13, 3, 52, 0, 0), (42, .aload_n 0, 1, 0, 0, 0), (43, .getfield 28, 3, 9, 3, 2), (46, .iload_n 2, 1, 0, 0, 0), (47, .iaload, 1, 0, 0, 0), (48, .iconst (-1), 1, 0, 0, 0), (49, .if_icmp .eq 5, 3, 54, 0, 0), (52, .iconst 1, 1, 0, 0, 0), (53, .ireturn, 1, 0, 0, 0), (54, .aload_n 3, 1, 0, 0, 0), (55, .iconst 4, 1, 0, 0, 0), (56, .iload_n 2, 1, 0, 0, 0), (57, .iadd, 1, 0, 0, 0), (58, .invokevirtual 66, 3, 111, 1, 12), (61, .aload_n 0, 1, 0, 0, 0), (62, .getfield 28, 3, 9, 3, 2), (65, .iload_n 2, 1, 0, 0, 0), (66, .iload_n 1, 1, 0, 0, 0), (67, .iastore, 1, 0, 0, 0), (68, .aload_n 0, 1, 0, 0, 0), (69, .getfield 31, 3, 9, 4, 2), (72, .iload_n 2, 1, 0, 0, 0), (73, .iconst 0, 1, 0, 0, 0), (74, .bastore, 1, 0, 0, 0), (75, .iconst 0, 1, 0, 0, 0), (76, .ireturn, 1, 0, 0, 0)]
def cu_124 : List (Nat × List Nat) := [(18, [0, 1, 2, 3]), (21, [0, 1, 2, 3]), (26, [0, 1, 2, 3]), (52, []), (61, [0, 1, 2])]
noncomputable def G_124 : tm_G := fun id as M => if id = 119 then F_119 as M else if id = 111 then F_111 as M else none
noncomputable def F_124 : List Value → tm_M → Option tm_R := tm_m tm_sh none G_124 false cd_124 cu_124 48 5
theorem gg_124 : tm_Gg G_124 := by
  intro id as M r h
  unfold G_124 at h
  rcases tm_ite_e h with ⟨_, h⟩ | ⟨_, h⟩
  · exact gr_119 h
  rcases tm_ite_e h with ⟨_, h⟩ | ⟨_, h⟩
  · exact gr_111 h
  cases h
theorem gm_124 (l : Launch) : ∀ id as M r, G_124 id as M = some r → tm_MA tm_sh l (tm_mt id) as M r := by
  intro id as M r h
  unfold G_124 at h
  rcases tm_ite_e h with ⟨rfl, h⟩ | ⟨_, h⟩
  · exact con_119 l h
  rcases tm_ite_e h with ⟨rfl, h⟩ | ⟨_, h⟩
  · exact con_111 l h
  cases h
theorem gr_124 {as : List Value} {M : tm_M} {r : tm_R} (h : F_124 as M = some r) : tm_gr M r.2 := tm_m_gr gg_124 h
theorem ck_124 : tm_cdk (tm_mt 124).1.cls false tm_mt (tm_mt 124) false cd_124 := tm_cdk_of (LK := lk_RX9) (ix := [11, 18, 28, 16, 14, 16, 33]) lc_RX9 (by decide +kernel)
theorem con_124 (l : Launch) {as : List Value} {M : tm_M} {r : tm_R} (h : F_124 as M = some r) : tm_MA tm_sh l (tm_mt 124) as M r := tm_sound (t := tm_mt 124) tm_Sok_ok tm_CL_ok gg_124 (gm_124 l) (fun _ _ => ⟨rfl, rfl⟩) ck_124 (by decide +kernel) (fun h => by cases h) (fun _ _ _ _ => tm_nos_all (by decide +kernel)) h
def cd_125 : List tm_E := [(0, .aload_n 0, 1, 0, 0, 0), (1, .getfield 43, 3, 4, 7, 0), (4, .sipush 200, 3, 0, 0, 0), (7, .if_icmp .ge 39, 3, 46, 0, 0), (10, .aload_n 0, 1, 0, 0, 0), (11, .getfield 43, 3, 4, 7, 0), (14, .iconst 3, 1, 0, 0, 0), (15, .imul, 1, 0, 0, 0), (16, .istore 4, 2, 0, 0, 0), (18, .aload_n 0, 1, 0, 0, 0), (19, .getfield 11, 3, 4, 0, 2), (22, .iload 4, 2, 0, 0, 0), (24, .iload_n 1, 1, 0, 0, 0), (25, .iastore, 1, 0, 0, 0), (26, .aload_n 0, 1, 0, 0, 0), (27, .getfield 11, 3, 4, 0, 2), (30, .iload 4, 2, 0, 0, 0), (32, .iconst 1, 1, 0, 0, 0), (33, .iadd, 1, 0, 0, 0), (34, .iload_n 2, 1, 0, 0, 0), (35, .iastore, 1, 0, 0, 0), (36, .aload_n 0, 1, 0, 0, 0), (37, .getfield 11, 3, 4, 0, 2), (40, .iload 4, 2, 0, 0, 0), (42, .iconst 2, 1, 0, 0, 0), (43, .iadd, 1, 0, 0, 0), (44, .iload_n 3, 1, 0, 0, 0), (45, .iastore, 1, 0, 0, 0), (46, .aload_n 0, 1, 0, 0, 0), (47, .dup, 1, 0, 0, 0), (48, .getfield 43, 3, 4, 7, 0), (51, .iconst 1, 1, 0, 0, 0), (52, .iadd, 1, 0, 0, 0), (53, .putfield 43, 3, 4, 7, 0), (56, .return_, 1, 0, 0, 0)]
def cu_125 : List (Nat × List Nat) := [(46, [0])]
def G_125 : tm_G := fun _ _ _ => none
noncomputable def F_125 : List Value → tm_M → Option tm_R := tm_m tm_sh none G_125 false cd_125 cu_125 36 5
theorem gg_125 : tm_Gg G_125 := fun _ _ _ _ h => by cases h
theorem gm_125 (l : Launch) : ∀ id as M r, G_125 id as M = some r → tm_MA tm_sh l (tm_mt id) as M r := fun _ _ _ _ h => by cases h
theorem gr_125 {as : List Value} {M : tm_M} {r : tm_R} (h : F_125 as M = some r) : tm_gr M r.2 := tm_m_gr gg_125 h
theorem ck_125 : tm_cdk (tm_mt 125).1.cls false tm_mt (tm_mt 125) false cd_125 := tm_cdk_of (LK := lk_RX4) (ix := [16, 16, 17, 17, 17, 16, 10]) lc_RX4 (by decide +kernel)
theorem con_125 (l : Launch) {as : List Value} {M : tm_M} {r : tm_R} (h : F_125 as M = some r) : tm_MA tm_sh l (tm_mt 125) as M r := tm_sound (t := tm_mt 125) tm_Sok_ok tm_CL_ok gg_125 (gm_125 l) (fun _ _ => ⟨rfl, rfl⟩) ck_125 (by decide +kernel) (fun h => by cases h) (fun _ _ _ _ => tm_nos_all (by decide +kernel)) h
def cd_126 : List tm_E := [(0, .aload_n 2, 1, 0, 0, 0), (1, .getfield 52, 3, 7, 0, 2), (4, .iload_n 3, 1, 0, 0, 0), (5, .iaload, 1, 0, 0, 0), (6, .istore 4, 2, 0, 0, 0), (8, .aload_n 2, 1, 0, 0, 0), (9, .getfield 72, 3, 7, 1, 2), (12, .iload_n 3, 1, 0, 0, 0), (13, .iaload, 1, 0, 0, 0), (14, .istore 5, 2, 0, 0, 0), (16, .aload_n 2, 1, 0, 0, 0), (17, .getfield 75, 3, 7, 3, 2), (20, .iload_n 3, 1, 0, 0, 0), (21, .iaload, 1, 0, 0, 0), (22, .istore 6, 2, 0, 0, 0), (24, .iload 5, 2, 0, 0, 0), (26, .invokestatic 78, 3, 114, 1, 1), (29, .ifCond .ne 4, 3, 33, 0, 0), (32, .return_, 1, 0, 0, 0), (33, .aload_n 0, 1, 0, 0, 0), (34, .getfield 20, 3, 9, 1, 2), (37, .iload 5, 2, 0, 0, 0), (39, .aaload, 1, 0, 0, 0), (40, .astore 7, 2, 0, 0, 0), (42, .iconst 0, 1, 0, 0, 0), (43, .istore 8, 2, 0, 0, 0), (45, .aload_n 2, 1, 0, 0, 0), (46, .getfield 82, 3, 7, 2, 2), (49, .iload_n 3, 1, 0, 0, 0), (50, .iaload, 1, 0, 0, 0), (51, .tableswitch 74 16 18 #[25, 39, 52], 25, 0, 0, 0), (76, .aload_n 0, 1, 0, 0, 0), (77, .aload_n 1, 1, 0, 0, 0), (78, .aload 7, 2, 0, 0, 0), (80, .iload 6, 2, 0, 0, 0), (82, .invokevirtual 85, 3, 118, 3, 37), (85, .istore 8, 2, 0, 0, 0), (87, .goto 48, 3, 135, 0, 0), (90, .aload_n 0, 1, 0, 0, 0), (91, .aload 7, 2, 0, 0, 0), (93, .iload 6, 2, 0, 0, 0), (95, .invokevirtual 89, 3, 120, 2, 37), (98, .istore 8, 2, 0, 0, 0), (100, .goto 35, 3, 135, 0, 0), (103, .aload_n 0, 1, 0, 0, 0), (104, .aload_n 1, 1, 0, 0, 0), (105, .aload 7, 2, 0, 0, 0), (107, .iload 6, 2, 0, 0, 0), (109, .aload_n 2, 1, 0, 0, 0), (110, .getfield 93, 3, 7, 4, 2), (113, .iload_n 3, 1, 0, 0, 0), (114, .baload, 1, 0, 0, 0), (115, .iload 4, 2, 0, 0, 0), (117, .invokevirtual 96, 3, 123, 5, 37), (120, .istore 8, 2, 0, 0, 0), (122, .goto 13, 3, 135, 0, 0), (125, .aload_n 0, 1, 0, 0, 0), (126, .iload 5, 2, 0, 0, 0), (128, .iload 6, 2, 0, 0, 0), (130, .invokevirtual 100, 3, 124, 2, 37), (133, .istore 8, 2, 0, 0, 0), (135, .iload 8, 2, 0, 0, 0), (137, .ifCond .eq 16, 3, 153, 0, 0), (140, .aload_n 0, 1, 0, 0, 0), (141, .getfield 12, 3, 9, 0, 2), (144, .iload 4, 2, 0, 0, 0), (146, .iload 8, 2, 0, 0, 0), (148, .iload 5, 2, 0, 0, 0), (150, .invokevirtual 104, 3, 125, 3, 16), (153, .return_, 1, 0, 0, 0)]
def cu_126 : List (Nat × List Nat) := [(29, [0, 1, 2, 3, 4, 5, 6]), (85, [0, 4, 5]), (98, [0, 4, 5]), (120, [0, 4, 5]), (133, [0, 4, 5]), (135, [0, 4, 5, 8]), (153, [])]
noncomputable def G_126 : tm_G := fun id as M => if id = 114 then F_114 as M else if id = 118 then F_118 as M else if id = 120 then F_120 as M else if id = 123 then F_123 as M else if id = 124 then F_124 as M else if id = 125 then F_125 as M else none
noncomputable def F_126 : List Value → tm_M → Option tm_R := tm_m tm_sh none G_126 false cd_126 cu_126 71 9
theorem gg_126 : tm_Gg G_126 := by
  intro id as M r h
  unfold G_126 at h
  rcases tm_ite_e h with ⟨_, h⟩ | ⟨_, h⟩
  · exact gr_114 h
  rcases tm_ite_e h with ⟨_, h⟩ | ⟨_, h⟩
  · exact gr_118 h
  rcases tm_ite_e h with ⟨_, h⟩ | ⟨_, h⟩
  · exact gr_120 h
  rcases tm_ite_e h with ⟨_, h⟩ | ⟨_, h⟩
  · exact gr_123 h
  rcases tm_ite_e h with ⟨_, h⟩ | ⟨_, h⟩
  · exact gr_124 h
  rcases tm_ite_e h with ⟨_, h⟩ | ⟨_, h⟩
  · exact gr_125 h
  cases h
theorem gm_126 (l : Launch) : ∀ id as M r, G_126 id as M = some r → tm_MA tm_sh l (tm_mt id) as M r := by
  intro id as M r h
  unfold G_126 at h
  rcases tm_ite_e h with ⟨rfl, h⟩ | ⟨_, h⟩
  · exact con_114 l h
  rcases tm_ite_e h with ⟨rfl, h⟩ | ⟨_, h⟩
  · exact con_118 l h
  rcases tm_ite_e h with ⟨rfl, h⟩ | ⟨_, h⟩
  · exact con_120 l h
  rcases tm_ite_e h with ⟨rfl, h⟩ | ⟨_, h⟩
  · exact con_123 l h
  rcases tm_ite_e h with ⟨rfl, h⟩ | ⟨_, h⟩
  · exact con_124 l h
  rcases tm_ite_e h with ⟨rfl, h⟩ | ⟨_, h⟩
  · exact con_125 l h
  cases h
theorem gr_126 {as : List Value} {M : tm_M} {r : tm_R} (h : F_126 as M = some r) : tm_gr M r.2 := tm_m_gr gg_126 h
theorem ck_126 : tm_cdk (tm_mt 126).1.cls false tm_mt (tm_mt 126) false cd_126 := tm_cdk_of (LK := lk_RX9) (ix := [34, 35, 36, 37, 11, 38, 39, 40, 41, 42, 43, 44, 45]) lc_RX9 (by decide +kernel)
theorem con_126 (l : Launch) {as : List Value} {M : tm_M} {r : tm_R} (h : F_126 as M = some r) : tm_MA tm_sh l (tm_mt 126) as M r := tm_sound (t := tm_mt 126) tm_Sok_ok tm_CL_ok gg_126 (gm_126 l) (fun _ _ => ⟨rfl, rfl⟩) ck_126 (by decide +kernel) (fun h => by cases h) (fun _ _ _ _ => tm_nos_all (by decide +kernel)) h
def cd_127 : List tm_E := [(0, .iload_n 1, 1, 0, 0, 0), (1, .ifCond .lt 11, 3, 12, 0, 0), (4, .iload_n 1, 1, 0, 0, 0), (5, .aload_n 0, 1, 0, 0, 0), (6, .getfield 33, 3, 4, 6, 0), (9, .if_icmp .lt 4, 3, 13, 0, 0), (12, .return_, 1, 0, 0, 0), (13, .aload_n 0, 1, 0, 0, 0), (14, .getfield 18, 3, 4, 2, 2), (17, .iload_n 1, 1, 0, 0, 0), (18, .iload_n 2, 1, 0, 0, 0), (19, .iastore, 1, 0, 0, 0), (20, .iload_n 2, 1, 0, 0, 0), (21, .iconst 4, 1, 0, 0, 0), (22, .if_icmp .ne 13, 3, 35, 0, 0), (25, .aload_n 0, 1, 0, 0, 0), (26, .dup, 1, 0, 0, 0), (27, .getfield 52, 3, 4, 10, 0), (30, .iconst 1, 1, 0, 0, 0), (31, .iadd, 1, 0, 0, 0), (32, .putfield 52, 3, 4, 10, 0), (35, .iconst 0, 1, 0, 0, 0), (36, .istore 4, 2, 0, 0, 0), (38, .iload 4, 2, 0, 0, 0), (40, .bipush 6, 2, 0, 0, 0), (42, .if_icmp .ge 75, 3, 117, 0, 0), (45, .iload 4, 2, 0, 0, 0), (47, .aload_n 3, 1, 0, 0, 0), (48, .arraylength, 1, 0, 0, 0), (49, .if_icmp .ge 68, 3, 117, 0, 0), (52, .aload_n 3, 1, 0, 0, 0), (53, .iload 4, 2, 0, 0, 0), (55, .aaload, 1, 0, 0, 0), (56, .astore 5, 2, 0, 0, 0), (58, .aload_n 0, 1, 0, 0, 0), (59, .getfield 21, 3, 4, 3, 2), (62, .iload_n 1, 1, 0, 0, 0), (63, .bipush 6, 2, 0, 0, 0), (65, .imul, 1, 0, 0, 0), (66, .iload 4, 2, 0, 0, 0), (68, .iadd, 1, 0, 0, 0), (69, .aload 5, 2, 0, 0, 0), (71, .getfield 75, 3, 3, 0, 0), (74, .aload 5, 2, 0, 0, 0), (76, .getfield 78, 3, 3, 1, 0), (79, .iconst 3, 1, 0, 0, 0), (80, .ishl, 1, 0, 0, 0), (81, .ior, 1, 0, 0, 0), (82, .aload 5, 2, 0, 0, 0), (84, .getfield 81, 3, 3, 2, 0), (87, .iconst 5, 1, 0, 0, 0), (88, .ishl, 1, 0, 0, 0), (89, .ior, 1, 0, 0, 0), (90, .aload 5, 2, 0, 0, 0), (92, .getfield 61, 3, 3, 3, 0), (95, .iconst 1, 1, 0, 0, 0), (96, .iadd, 1, 0, 0, 0), (97, .bipush 7, 2, 0, 0, 0), (99, .ishl, 1, 0, 0, 0), (100, .ior, 1, 0, 0, 0), (101, .aload 5, 2, 0, 0, 0), (103, .getfield 84, 3, 3, 6, 0), (106, .bipush 11, 2, 0, 0, 0), (108, .ishl, 1, 0, 0, 0), (109, .ior, 1, 0, 0, 0), (110, .iastore, 1, 0, 0, 0), (111, .iinc 4 1, 3, 0, 0, 0), (114, .goto (-76), 3, 38, 0, 0), (117, .return_, 1, 0, 0, 0)]
def cu_127 : List (Nat × List Nat) := [(12, []), (35, [0, 1, 3]), (38, [0, 1, 3, 4]), (117, [])]
def G_127 : tm_G := fun _ _ _ => none
noncomputable def F_127 : List Value → tm_M → Option tm_R := tm_m tm_sh none G_127 false cd_127 cu_127 70 6
theorem gg_127 : tm_Gg G_127 := fun _ _ _ _ h => by cases h
theorem gm_127 (l : Launch) : ∀ id as M r, G_127 id as M = some r → tm_MA tm_sh l (tm_mt id) as M r := fun _ _ _ _ h => by cases h
theorem gr_127 {as : List Value} {M : tm_M} {r : tm_R} (h : F_127 as M = some r) : tm_gr M r.2 := tm_m_gr gg_127 h
theorem ck_127 : tm_cdk (tm_mt 127).1.cls false tm_mt (tm_mt 127) false cd_127 := tm_cdk_of (LK := lk_RX4) (ix := [18, 19, 20, 13, 21, 22, 23, 24, 25, 26]) lc_RX4 (by decide +kernel)
theorem con_127 (l : Launch) {as : List Value} {M : tm_M} {r : tm_R} (h : F_127 as M = some r) : tm_MA tm_sh l (tm_mt 127) as M r := tm_sound (t := tm_mt 127) tm_Sok_ok tm_CL_ok gg_127 (gm_127 l) (fun _ _ => ⟨rfl, rfl⟩) ck_127 (by decide +kernel) (fun h => by cases h) (fun _ _ _ _ => tm_nos_all (by decide +kernel)) h
def cd_128 : List tm_E := [(0, .iconst 0, 1, 0, 0, 0), (1, .istore_n 2, 1, 0, 0, 0), (2, .iload_n 2, 1, 0, 0, 0), (3, .bipush 6, 2, 0, 0, 0), (5, .if_icmp .ge 19, 3, 24, 0, 0), (8, .aload_n 0, 1, 0, 0, 0), (9, .getfield 20, 3, 9, 1, 2), (12, .iload_n 2, 1, 0, 0, 0), (13, .aaload, 1, 0, 0, 0), (14, .iconst 0, 1, 0, 0, 0), (15, .putfield 157, 3, 3, 6, 0), (18, .iinc 2 1, 3, 0, 0, 0), (21, .goto (-19), 3, 2, 0, 0), (24, .aload_n 0, 1, 0, 0, 0), (25, .getfield 12, 3, 9, 0, 2), (28, .iload_n 1, 1, 0, 0, 0), (29, .iconst 4, 1, 0, 0, 0), (30, .aload_n 0, 1, 0, 0, 0), (31, .getfield 20, 3, 9, 1, 2), (34, .invokevirtual 160, 3, 127, 3, 16), (37, .return_, 1, 0, 0, 0)]
def cu_128 : List (Nat × List Nat) := [(2, [0, 1, 2]), (37, [])]
noncomputable def G_128 : tm_G := fun id as M => if id = 127 then F_127 as M else none
noncomputable def F_128 : List Value → tm_M → Option tm_R := tm_m tm_sh none G_128 false cd_128 cu_128 22 3
theorem gg_128 : tm_Gg G_128 := by
  intro id as M r h
  unfold G_128 at h
  rcases tm_ite_e h with ⟨_, h⟩ | ⟨_, h⟩
  · exact gr_127 h
  cases h
theorem gm_128 (l : Launch) : ∀ id as M r, G_128 id as M = some r → tm_MA tm_sh l (tm_mt id) as M r := by
  intro id as M r h
  unfold G_128 at h
  rcases tm_ite_e h with ⟨rfl, h⟩ | ⟨_, h⟩
  · exact con_127 l h
  cases h
theorem gr_128 {as : List Value} {M : tm_M} {r : tm_R} (h : F_128 as M = some r) : tm_gr M r.2 := tm_m_gr gg_128 h
theorem ck_128 : tm_cdk (tm_mt 128).1.cls false tm_mt (tm_mt 128) false cd_128 := tm_cdk_of (LK := lk_RX9) (ix := [11, 46, 44, 11, 47]) lc_RX9 (by decide +kernel)
theorem con_128 (l : Launch) {as : List Value} {M : tm_M} {r : tm_R} (h : F_128 as M = some r) : tm_MA tm_sh l (tm_mt 128) as M r := tm_sound (t := tm_mt 128) tm_Sok_ok tm_CL_ok gg_128 (gm_128 l) (fun _ _ => ⟨rfl, rfl⟩) ck_128 (by decide +kernel) (fun h => by cases h) (fun _ _ _ _ => tm_nos_all (by decide +kernel)) h
def cd_129 : List tm_E := [(0, .iconst 0, 1, 0, 0, 0), (1, .istore_n 1, 1, 0, 0, 0), (2, .iload_n 1, 1, 0, 0, 0), (3, .bipush 6, 2, 0, 0, 0), (5, .if_icmp .ge 23, 3, 28, 0, 0), (8, .aload_n 0, 1, 0, 0, 0), (9, .getfield 20, 3, 9, 1, 2), (12, .iload_n 1, 1, 0, 0, 0), (13, .aaload, 1, 0, 0, 0), (14, .invokevirtual 151, 3, 116, 0, 13), (17, .ifCond .eq 5, 3, 22, 0, 0), (20, .iload_n 1, 1, 0, 0, 0), (21, .ireturn, 1, 0, 0, 0), (22, .iinc 1 1, 3, 0, 0, 0), (25, .goto (-23), 3, 2, 0, 0), (28, .iconst (-1), 1, 0, 0, 0), (29, .ireturn, 1, 0, 0, 0)]
def cu_129 : List (Nat × List Nat) := [(2, [0, 1]), (17, [0, 1])]
noncomputable def G_129 : tm_G := fun id as M => if id = 116 then F_116 as M else none
noncomputable def F_129 : List Value → tm_M → Option tm_R := tm_m tm_sh none G_129 false cd_129 cu_129 18 2
theorem gg_129 : tm_Gg G_129 := by
  intro id as M r h
  unfold G_129 at h
  rcases tm_ite_e h with ⟨_, h⟩ | ⟨_, h⟩
  · exact gr_116 h
  cases h
theorem gm_129 (l : Launch) : ∀ id as M r, G_129 id as M = some r → tm_MA tm_sh l (tm_mt id) as M r := by
  intro id as M r h
  unfold G_129 at h
  rcases tm_ite_e h with ⟨rfl, h⟩ | ⟨_, h⟩
  · exact con_116 l h
  cases h
theorem gr_129 {as : List Value} {M : tm_M} {r : tm_R} (h : F_129 as M = some r) : tm_gr M r.2 := tm_m_gr gg_129 h
theorem ck_129 : tm_cdk (tm_mt 129).1.cls false tm_mt (tm_mt 129) false cd_129 := tm_cdk_of (LK := lk_RX9) (ix := [11, 19]) lc_RX9 (by decide +kernel)
theorem con_129 (l : Launch) {as : List Value} {M : tm_M} {r : tm_R} (h : F_129 as M = some r) : tm_MA tm_sh l (tm_mt 129) as M r := tm_sound (t := tm_mt 129) tm_Sok_ok tm_CL_ok gg_129 (gm_129 l) (fun _ _ => ⟨rfl, rfl⟩) ck_129 (by decide +kernel) (fun h => by cases h) (fun _ _ _ _ => tm_nos_all (by decide +kernel)) h
def cd_130 : List tm_E := [(0, .iload_n 2, 1, 0, 0, 0), (1, .invokestatic 78, 3, 114, 1, 1), (4, .ifCond .ne 5, 3, 9, 0, 0), (7, .iconst 0, 1, 0, 0, 0), (8, .ireturn, 1, 0, 0, 0), (9, .aload_n 0, 1, 0, 0, 0), (10, .getfield 20, 3, 9, 1, 2), (13, .iload_n 2, 1, 0, 0, 0), (14, .aaload, 1, 0, 0, 0), (15, .astore 4, 2, 0, 0, 0), (17, .aload_n 1, 1, 0, 0, 0), (18, .aload 4, 2, 0, 0, 0), (20, .getfield 154, 3, 3, 3, 0), (23, .invokevirtual 126, 3, 84, 1, 1), (26, .ifCond .eq 26, 3, 52, 0, 0), (29, .aload_n 1, 1, 0, 0, 0), (30, .getfield 131, 3, 0, 0, 2), (33, .aload 4, 2, 0, 0, 0), (35, .getfield 154, 3, 3, 3, 0), (38, .aaload, 1, 0, 0, 0), (39, .iload_n 3, 1, 0, 0, 0), (40, .aload 4, 2, 0, 0, 0), (42, .getfield 195, 3, 3, 5, 0), (45, .isub, 1, 0, 0, 0), (46, .invokevirtual 198, 3, 90, 1, 33), (49, .goto 4, 3, 53, 0, 0), (52, .iconst 0, 1, 0, 0, 0), (53, .ireturn, 1, 0, 0, 0)]
def cu_130 : List (Nat × List Nat) := [(4, [0, 1, 2, 3]), (26, [1, 3, 4]), (49, []), (53, [])]
noncomputable def G_130 : tm_G := fun id as M => if id = 114 then F_114 as M else if id = 84 then F_84 as M else if id = 90 then F_90 as M else none
noncomputable def F_130 : List Value → tm_M → Option tm_R := tm_m tm_sh none G_130 false cd_130 cu_130 29 5
theorem gg_130 : tm_Gg G_130 := by
  intro id as M r h
  unfold G_130 at h
  rcases tm_ite_e h with ⟨_, h⟩ | ⟨_, h⟩
  · exact gr_114 h
  rcases tm_ite_e h with ⟨_, h⟩ | ⟨_, h⟩
  · exact gr_84 h
  rcases tm_ite_e h with ⟨_, h⟩ | ⟨_, h⟩
  · exact gr_90 h
  cases h
theorem gm_130 (l : Launch) : ∀ id as M r, G_130 id as M = some r → tm_MA tm_sh l (tm_mt id) as M r := by
  intro id as M r h
  unfold G_130 at h
  rcases tm_ite_e h with ⟨rfl, h⟩ | ⟨_, h⟩
  · exact con_114 l h
  rcases tm_ite_e h with ⟨rfl, h⟩ | ⟨_, h⟩
  · exact con_84 l h
  rcases tm_ite_e h with ⟨rfl, h⟩ | ⟨_, h⟩
  · exact con_90 l h
  cases h
theorem gr_130 {as : List Value} {M : tm_M} {r : tm_R} (h : F_130 as M = some r) : tm_gr M r.2 := tm_m_gr gg_130 h
theorem ck_130 : tm_cdk (tm_mt 130).1.cls false tm_mt (tm_mt 130) false cd_130 := tm_cdk_of (LK := lk_RX9) (ix := [37, 11, 20, 21, 22, 20, 48, 49]) lc_RX9 (by decide +kernel)
theorem con_130 (l : Launch) {as : List Value} {M : tm_M} {r : tm_R} (h : F_130 as M = some r) : tm_MA tm_sh l (tm_mt 130) as M r := tm_sound (t := tm_mt 130) tm_Sok_ok tm_CL_ok gg_130 (gm_130 l) (fun _ _ => ⟨rfl, rfl⟩) ck_130 (by decide +kernel) (fun h => by cases h) (fun _ _ _ _ => tm_nos_all (by decide +kernel)) h
def cd_131 : List tm_E := [(0, .aload_n 0, 1, 0, 0, 0), (1, .getfield 15, 3, 3, 1, 0), (4, .iconst 1, 1, 0, 0, 0), (5, .if_icmp .ne 7, 3, 12, 0, 0), (8, .iconst 2, 1, 0, 0, 0), (9, .goto 4, 3, 13, 0, 0), (12, .iconst 1, 1, 0, 0, 0), (13, .istore_n 1, 1, 0, 0, 0), (14, .iload_n 1, 1, 0, 0, 0), (15, .invokestatic 37, 3, 86, 1, 1), (18, .istore_n 2, 1, 0, 0, 0), (19, .aload_n 0, 1, 0, 0, 0), (20, .iload_n 1, 1, 0, 0, 0), (21, .iconst 2, 1, 0, 0, 0), (22, .ishl, 1, 0, 0, 0), (23, .iload_n 2, 1, 0, 0, 0), (24, .bipush 6, 2, 0, 0, 0), (26, .ishl, 1, 0, 0, 0), (27, .ior, 1, 0, 0, 0), (28, .putfield 21, 3, 3, 6, 0), (31, .aload_n 0, 1, 0, 0, 0), (32, .iload_n 2, 1, 0, 0, 0), (33, .putfield 15, 3, 3, 1, 0), (36, .return_, 1, 0, 0, 0)]
def cu_131 : List (Nat × List Nat) := [(13, [0]), (18, [0, 1])]
noncomputable def G_131 : tm_G := fun id as M => if id = 86 then F_86 as M else none
noncomputable def F_131 : List Value → tm_M → Option tm_R := tm_m tm_sh none G_131 false cd_131 cu_131 25 3
theorem gg_131 : tm_Gg G_131 := by
  intro id as M r h
  unfold G_131 at h
  rcases tm_ite_e h with ⟨_, h⟩ | ⟨_, h⟩
  · exact gr_86 h
  cases h
theorem gm_131 (l : Launch) : ∀ id as M r, G_131 id as M = some r → tm_MA tm_sh l (tm_mt id) as M r := by
  intro id as M r h
  unfold G_131 at h
  rcases tm_ite_e h with ⟨rfl, h⟩ | ⟨_, h⟩
  · exact con_86 l h
  cases h
theorem gr_131 {as : List Value} {M : tm_M} {r : tm_R} (h : F_131 as M = some r) : tm_gr M r.2 := tm_m_gr gg_131 h
theorem ck_131 : tm_cdk (tm_mt 131).1.cls false tm_mt (tm_mt 131) false cd_131 := tm_cdk_of (LK := lk_RX3) (ix := [11, 12, 7, 5]) lc_RX3 (by decide +kernel)
theorem con_131 (l : Launch) {as : List Value} {M : tm_M} {r : tm_R} (h : F_131 as M = some r) : tm_MA tm_sh l (tm_mt 131) as M r := tm_sound (t := tm_mt 131) tm_Sok_ok tm_CL_ok gg_131 (gm_131 l) (fun _ _ => ⟨rfl, rfl⟩) ck_131 (by decide +kernel) (fun h => by cases h) (fun _ _ _ _ => tm_nos_all (by decide +kernel)) h
def cd_132 : List tm_E := [(0, .aload_n 0, 1, 0, 0, 0), (1, .iconst 0, 1, 0, 0, 0), (2, .putfield 21, 3, 3, 6, 0), (5, .iconst 0, 1, 0, 0, 0), (6, .istore_n 3, 1, 0, 0, 0), (7, .iload_n 3, 1, 0, 0, 0), (8, .iconst 4, 1, 0, 0, 0), (9, .if_icmp .ge 55, 3, 64, 0, 0), (12, .aload_n 1, 1, 0, 0, 0), (13, .iconst 4, 1, 0, 0, 0), (14, .iload_n 2, 1, 0, 0, 0), (15, .aload_n 0, 1, 0, 0, 0), (16, .getfield 34, 3, 3, 5, 0), (19, .isub, 1, 0, 0, 0), (20, .imul, 1, 0, 0, 0), (21, .iload_n 3, 1, 0, 0, 0), (22, .iadd, 1, 0, 0, 0), (23, .aload_n 0, 1, 0, 0, 0), (24, .getfield 30, 3, 3, 4, 0), (27, .invokevirtual 41, 3, 88, 2, 33), (30, .istore 4, 2, 0, 0, 0), (32, .aload_n 0, 1, 0, 0, 0), (33, .dup, 1, 0, 0, 0), (34, .getfield 21, 3, 3, 6, 0), (37, .iload 4, 2, 0, 0, 0), (39, .iconst 2, 1, 0, 0, 0), (40, .iload_n 3, 1, 0, 0, 0), (41, .imul, 1, 0, 0, 0), (42, .ishl, 1, 0, 0, 0), (43, .ior, 1, 0, 0, 0), (44, .putfield 21, 3, 3, 6, 0), (47, .iload 4, 2, 0, 0, 0), (49, .ifCond .eq 9, 3, 58, 0, 0), (52, .aload_n 0, 1, 0, 0, 0), (53, .iload 4, 2, 0, 0, 0), (55, .putfield 15, 3, 3, 1, 0), (58, .iinc 3 1, 3, 0, 0, 0), (61, .goto (-54), 3, 7, 0, 0), (64, .return_, 1, 0, 0, 0)]
def cu_132 : List (Nat × List Nat) := [(7, [0, 1, 2, 3]), (30, [0, 1, 2, 3]), (58, [0, 1, 2, 3])]
noncomputable def G_132 : tm_G := fun id as M => if id = 88 then F_88 as M else none
noncomputable def F_132 : List Value → tm_M → Option tm_R := tm_m tm_sh none G_132 false cd_132 cu_132 40 5
theorem gg_132 : tm_Gg G_132 := by
  intro id as M r h
  unfold G_132 at h
  rcases tm_ite_e h with ⟨_, h⟩ | ⟨_, h⟩
  · exact gr_88 h
  cases h
theorem gm_132 (l : Launch) : ∀ id as M r, G_132 id as M = some r → tm_MA tm_sh l (tm_mt id) as M r := by
  intro id as M r h
  unfold G_132 at h
  rcases tm_ite_e h with ⟨rfl, h⟩ | ⟨_, h⟩
  · exact con_88 l h
  cases h
theorem gr_132 {as : List Value} {M : tm_M} {r : tm_R} (h : F_132 as M = some r) : tm_gr M r.2 := tm_m_gr gg_132 h
theorem ck_132 : tm_cdk (tm_mt 132).1.cls false tm_mt (tm_mt 132) false cd_132 := tm_cdk_of (LK := lk_RX3) (ix := [7, 13, 14, 15, 16, 7, 5]) lc_RX3 (by decide +kernel)
theorem con_132 (l : Launch) {as : List Value} {M : tm_M} {r : tm_R} (h : F_132 as M = some r) : tm_MA tm_sh l (tm_mt 132) as M r := tm_sound (t := tm_mt 132) tm_Sok_ok tm_CL_ok gg_132 (gm_132 l) (fun _ _ => ⟨rfl, rfl⟩) ck_132 (by decide +kernel) (fun h => by cases h) (fun _ _ _ _ => tm_nos_all (by decide +kernel)) h
def cd_133 : List tm_E := [(0, .iconst 0, 1, 0, 0, 0), (1, .istore_n 3, 1, 0, 0, 0), (2, .iload_n 3, 1, 0, 0, 0), (3, .bipush 6, 2, 0, 0, 0), (5, .if_icmp .ge 69, 3, 74, 0, 0), (8, .aload_n 0, 1, 0, 0, 0), (9, .getfield 20, 3, 9, 1, 2), (12, .iload_n 3, 1, 0, 0, 0), (13, .aaload, 1, 0, 0, 0), (14, .astore 4, 2, 0, 0, 0), (16, .aload 4, 2, 0, 0, 0), (18, .invokevirtual 122, 3, 119, 0, 13), (21, .ifCond .eq 11, 3, 32, 0, 0), (24, .aload 4, 2, 0, 0, 0), (26, .invokevirtual 202, 3, 131, 0, 12), (29, .goto 39, 3, 68, 0, 0), (32, .aload 4, 2, 0, 0, 0), (34, .invokevirtual 151, 3, 116, 0, 13), (37, .ifCond .eq 31, 3, 68, 0, 0), (40, .aload_n 1, 1, 0, 0, 0), (41, .aload 4, 2, 0, 0, 0), (43, .getfield 154, 3, 3, 3, 0), (46, .invokevirtual 126, 3, 84, 1, 1), (49, .ifCond .eq 19, 3, 68, 0, 0), (52, .aload 4, 2, 0, 0, 0), (54, .aload_n 1, 1, 0, 0, 0), (55, .getfield 131, 3, 0, 0, 2), (58, .aload 4, 2, 0, 0, 0), (60, .getfield 154, 3, 3, 3, 0), (63, .aaload, 1, 0, 0, 0), (64, .iload_n 2, 1, 0, 0, 0), (65, .invokevirtual 205, 3, 132, 2, 12), (68, .iinc 3 1, 3, 0, 0, 0), (71, .goto (-69), 3, 2, 0, 0), (74, .return_, 1, 0, 0, 0)]
def cu_133 : List (Nat × List Nat) := [(2, [0, 1, 2, 3]), (21, [0, 1, 2, 3, 4]), (29, [0, 1, 2, 3]), (37, [0, 1, 2, 3, 4]), (49, [0, 1, 2, 3, 4]), (68, [0, 1, 2, 3])]
noncomputable def G_133 : tm_G := fun id as M => if id = 119 then F_119 as M else if id = 131 then F_131 as M else if id = 116 then F_116 as M else if id = 84 then F_84 as M else if id = 132 then F_132 as M else none
noncomputable def F_133 : List Value → tm_M → Option tm_R := tm_m tm_sh none G_133 false cd_133 cu_133 36 5
theorem gg_133 : tm_Gg G_133 := by
  intro id as M r h
  unfold G_133 at h
  rcases tm_ite_e h with ⟨_, h⟩ | ⟨_, h⟩
  · exact gr_119 h
  rcases tm_ite_e h with ⟨_, h⟩ | ⟨_, h⟩
  · exact gr_131 h
  rcases tm_ite_e h with ⟨_, h⟩ | ⟨_, h⟩
  · exact gr_116 h
  rcases tm_ite_e h with ⟨_, h⟩ | ⟨_, h⟩
  · exact gr_84 h
  rcases tm_ite_e h with ⟨_, h⟩ | ⟨_, h⟩
  · exact gr_132 h
  cases h
theorem gm_133 (l : Launch) : ∀ id as M r, G_133 id as M = some r → tm_MA tm_sh l (tm_mt id) as M r := by
  intro id as M r h
  unfold G_133 at h
  rcases tm_ite_e h with ⟨rfl, h⟩ | ⟨_, h⟩
  · exact con_119 l h
  rcases tm_ite_e h with ⟨rfl, h⟩ | ⟨_, h⟩
  · exact con_131 l h
  rcases tm_ite_e h with ⟨rfl, h⟩ | ⟨_, h⟩
  · exact con_116 l h
  rcases tm_ite_e h with ⟨rfl, h⟩ | ⟨_, h⟩
  · exact con_84 l h
  rcases tm_ite_e h with ⟨rfl, h⟩ | ⟨_, h⟩
  · exact con_132 l h
  cases h
theorem gr_133 {as : List Value} {M : tm_M} {r : tm_R} (h : F_133 as M = some r) : tm_gr M r.2 := tm_m_gr gg_133 h
theorem ck_133 : tm_cdk (tm_mt 133).1.cls false tm_mt (tm_mt 133) false cd_133 := tm_cdk_of (LK := lk_RX9) (ix := [11, 28, 50, 19, 20, 21, 22, 20, 51]) lc_RX9 (by decide +kernel)
theorem con_133 (l : Launch) {as : List Value} {M : tm_M} {r : tm_R} (h : F_133 as M = some r) : tm_MA tm_sh l (tm_mt 133) as M r := tm_sound (t := tm_mt 133) tm_Sok_ok tm_CL_ok gg_133 (gm_133 l) (fun _ _ => ⟨rfl, rfl⟩) ck_133 (by decide +kernel) (fun h => by cases h) (fun _ _ _ _ => tm_nos_all (by decide +kernel)) h
def cd_134 : List tm_E := [(0, .iconst 0, 1, 0, 0, 0), (1, .istore 5, 2, 0, 0, 0), (3, .iload 5, 2, 0, 0, 0), (5, .bipush 6, 2, 0, 0, 0), (7, .if_icmp .ge 49, 3, 56, 0, 0), (10, .aload_n 0, 1, 0, 0, 0), (11, .getfield 20, 3, 9, 1, 2), (14, .iload 5, 2, 0, 0, 0), (16, .aaload, 1, 0, 0, 0), (17, .invokevirtual 151, 3, 116, 0, 13), (20, .ifCond .eq 30, 3, 50, 0, 0), (23, .aload_n 0, 1, 0, 0, 0), (24, .aload_n 1, 1, 0, 0, 0), (25, .iload 5, 2, 0, 0, 0), (27, .iload 4, 2, 0, 0, 0), (29, .invokevirtual 167, 3, 130, 3, 37), (32, .iload_n 3, 1, 0, 0, 0), (33, .if_icmp .eq 17, 3, 50, 0, 0), (36, .aload_n 0, 1, 0, 0, 0), (37, .getfield 12, 3, 9, 0, 2), (40, .iload 4, 2, 0, 0, 0), (42, .bipush 7, 2, 0, 0, 0), (44, .iload_n 2, 1, 0, 0, 0), (45, .invokevirtual 104, 3, 125, 3, 16), (48, .iconst 1, 1, 0, 0, 0), (49, .ireturn, 1, 0, 0, 0), (50, .iinc 5 1, 3, 0, 0, 0), (53, .goto (-50), 3, 3, 0, 0), (56, .iconst 0, 1, 0, 0, 0), (57, .ireturn, 1, 0, 0, 0)]
def cu_134 : List (Nat × List Nat) := [(3, [0, 1, 2, 3, 4, 5]), (20, [0, 1, 2, 3, 4, 5]), (32, [0, 1, 2, 3, 4, 5]), (48, []), (50, [0, 1, 2, 3, 4, 5])]
noncomputable def G_134 : tm_G := fun id as M => if id = 116 then F_116 as M else if id = 130 then F_130 as M else if id = 125 then F_125 as M else none
noncomputable def F_134 : List Value → tm_M → Option tm_R := tm_m tm_sh none G_134 true cd_134 cu_134 31 6
theorem gg_134 : tm_Gg G_134 := by
  intro id as M r h
  unfold G_134 at h
  rcases tm_ite_e h with ⟨_, h⟩ | ⟨_, h⟩
  · exact gr_116 h
  rcases tm_ite_e h with ⟨_, h⟩ | ⟨_, h⟩
  · exact gr_130 h
  rcases tm_ite_e h with ⟨_, h⟩ | ⟨_, h⟩
  · exact gr_125 h
  cases h
theorem gm_134 (l : Launch) : ∀ id as M r, G_134 id as M = some r → tm_MA tm_sh l (tm_mt id) as M r := by
  intro id as M r h
  unfold G_134 at h
  rcases tm_ite_e h with ⟨rfl, h⟩ | ⟨_, h⟩
  · exact con_116 l h
  rcases tm_ite_e h with ⟨rfl, h⟩ | ⟨_, h⟩
  · exact con_130 l h
  rcases tm_ite_e h with ⟨rfl, h⟩ | ⟨_, h⟩
  · exact con_125 l h
  cases h
theorem gr_134 {as : List Value} {M : tm_M} {r : tm_R} (h : F_134 as M = some r) : tm_gr M r.2 := tm_m_gr gg_134 h
theorem ck_134 : tm_cdk (tm_mt 134).1.cls false tm_mt (tm_mt 134) true cd_134 := tm_cdk_of (LK := lk_RX9) (ix := [11, 19, 52, 44, 45]) lc_RX9 (by decide +kernel)
theorem con_134 (l : Launch) {as : List Value} {M : tm_M} {r : tm_R} (h : F_134 as M = some r) : tm_MA tm_sh l (tm_mt 134) as M r := tm_sound (t := tm_mt 134) tm_Sok_ok tm_CL_ok gg_134 (gm_134 l) (fun _ _ => ⟨rfl, rfl⟩) ck_134 (by decide +kernel) (fun h => by cases h) (fun _ _ _ _ => tm_nos_all (by decide +kernel)) h
def cd_135 : List tm_E := [(0, .iload_n 1, 1, 0, 0, 0), (1, .ifCond .ne 5, 3, 6, 0, 0), (4, .iconst 0, 1, 0, 0, 0), (5, .ireturn, 1, 0, 0, 0), (6, .iconst 0, 1, 0, 0, 0), (7, .istore_n 3, 1, 0, 0, 0), (8, .iload_n 3, 1, 0, 0, 0), (9, .bipush 6, 2, 0, 0, 0), (11, .if_icmp .ge 35, 3, 46, 0, 0), (14, .aload_n 0, 1, 0, 0, 0), (15, .getfield 20, 3, 9, 1, 2), (18, .iload_n 3, 1, 0, 0, 0), (19, .aaload, 1, 0, 0, 0), (20, .getfield 108, 3, 3, 0, 0), (23, .iconst 4, 1, 0, 0, 0), (24, .if_icmp .lt 16, 3, 40, 0, 0), (27, .aload_n 0, 1, 0, 0, 0), (28, .getfield 12, 3, 9, 0, 2), (31, .iload_n 2, 1, 0, 0, 0), (32, .bipush 8, 2, 0, 0, 0), (34, .iload_n 3, 1, 0, 0, 0), (35, .invokevirtual 104, 3, 125, 3, 16), (38, .iconst 1, 1, 0, 0, 0), (39, .ireturn, 1, 0, 0, 0), (40, .iinc 3 1, 3, 0, 0, 0), (43, .goto (-35), 3, 8, 0, 0), (46, .iconst 0, 1, 0, 0, 0), (47, .ireturn, 1, 0, 0, 0)]
def cu_135 : List (Nat × List Nat) := [(8, [0, 2, 3]), (38, [])]
noncomputable def G_135 : tm_G := fun id as M => if id = 125 then F_125 as M else none
noncomputable def F_135 : List Value → tm_M → Option tm_R := tm_m tm_sh none G_135 true cd_135 cu_135 29 4
theorem gg_135 : tm_Gg G_135 := by
  intro id as M r h
  unfold G_135 at h
  rcases tm_ite_e h with ⟨_, h⟩ | ⟨_, h⟩
  · exact gr_125 h
  cases h
theorem gm_135 (l : Launch) : ∀ id as M r, G_135 id as M = some r → tm_MA tm_sh l (tm_mt id) as M r := by
  intro id as M r h
  unfold G_135 at h
  rcases tm_ite_e h with ⟨rfl, h⟩ | ⟨_, h⟩
  · exact con_125 l h
  cases h
theorem gr_135 {as : List Value} {M : tm_M} {r : tm_R} (h : F_135 as M = some r) : tm_gr M r.2 := tm_m_gr gg_135 h
theorem ck_135 : tm_cdk (tm_mt 135).1.cls false tm_mt (tm_mt 135) true cd_135 := tm_cdk_of (LK := lk_RX9) (ix := [11, 18, 44, 45]) lc_RX9 (by decide +kernel)
theorem con_135 (l : Launch) {as : List Value} {M : tm_M} {r : tm_R} (h : F_135 as M = some r) : tm_MA tm_sh l (tm_mt 135) as M r := tm_sound (t := tm_mt 135) tm_Sok_ok tm_CL_ok gg_135 (gm_135 l) (fun _ _ => ⟨rfl, rfl⟩) ck_135 (by decide +kernel) (fun h => by cases h) (fun _ _ _ _ => tm_nos_all (by decide +kernel)) h
def cd_136 : List tm_E := [(0, .iconst 0, 1, 0, 0, 0), (1, .istore_n 2, 1, 0, 0, 0), (2, .iload_n 2, 1, 0, 0, 0), (3, .iconst 4, 1, 0, 0, 0), (4, .if_icmp .ge 32, 3, 36, 0, 0), (7, .aload_n 0, 1, 0, 0, 0), (8, .getfield 21, 3, 3, 6, 0), (11, .iconst 2, 1, 0, 0, 0), (12, .iload_n 2, 1, 0, 0, 0), (13, .imul, 1, 0, 0, 0), (14, .ishr, 1, 0, 0, 0), (15, .iconst 3, 1, 0, 0, 0), (16, .iand, 1, 0, 0, 0), (17, .ifCond .eq 13, 3, 30, 0, 0), (20, .iload_n 1, 1, 0, 0, 0), (21, .iload_n 2, 1, 0, 0, 0), (22, .invokestatic 47, 3, 102, 2, 1), (25, .ifCond .eq 5, 3, 30, 0, 0), (28, .iconst 1, 1, 0, 0, 0), (29, .ireturn, 1, 0, 0, 0), (30, .iinc 2 1, 3, 0, 0, 0), (33, .goto (-31), 3, 2, 0, 0), (36, .iconst 0, 1, 0, 0, 0), (37, .ireturn, 1, 0, 0, 0)]
def cu_136 : List (Nat × List Nat) := [(2, [0, 1, 2]), (25, [0, 1, 2]), (30, [0, 1, 2])]
noncomputable def G_136 : tm_G := fun id as M => if id = 102 then F_102 as M else none
noncomputable def F_136 : List Value → tm_M → Option tm_R := tm_m tm_sh none G_136 true cd_136 cu_136 25 3
theorem gg_136 : tm_Gg G_136 := by
  intro id as M r h
  unfold G_136 at h
  rcases tm_ite_e h with ⟨_, h⟩ | ⟨_, h⟩
  · exact gr_102 h
  cases h
theorem gm_136 (l : Launch) : ∀ id as M r, G_136 id as M = some r → tm_MA tm_sh l (tm_mt id) as M r := by
  intro id as M r h
  unfold G_136 at h
  rcases tm_ite_e h with ⟨rfl, h⟩ | ⟨_, h⟩
  · exact con_102 l h
  cases h
theorem gr_136 {as : List Value} {M : tm_M} {r : tm_R} (h : F_136 as M = some r) : tm_gr M r.2 := tm_m_gr gg_136 h
theorem ck_136 : tm_cdk (tm_mt 136).1.cls false tm_mt (tm_mt 136) true cd_136 := tm_cdk_of (LK := lk_RX3) (ix := [16, 17]) lc_RX3 (by decide +kernel)
theorem con_136 (l : Launch) {as : List Value} {M : tm_M} {r : tm_R} (h : F_136 as M = some r) : tm_MA tm_sh l (tm_mt 136) as M r := tm_sound (t := tm_mt 136) tm_Sok_ok tm_CL_ok gg_136 (gm_136 l) (fun _ _ => ⟨rfl, rfl⟩) ck_136 (by decide +kernel) (fun h => by cases h) (fun _ _ _ _ => tm_nos_all (by decide +kernel)) h
def cd_137 : List tm_E := [(0, .iconst 0, 1, 0, 0, 0), (1, .istore_n 3, 1, 0, 0, 0), (2, .iconst 0, 1, 0, 0, 0), (3, .istore 4, 2, 0, 0, 0), (5, .iload 4, 2, 0, 0, 0), (7, .bipush 6, 2, 0, 0, 0), (9, .if_icmp .ge 51, 3, 60, 0, 0), (12, .aload_n 0, 1, 0, 0, 0), (13, .getfield 20, 3, 9, 1, 2), (16, .iload 4, 2, 0, 0, 0), (18, .aaload, 1, 0, 0, 0), (19, .getfield 108, 3, 3, 0, 0), (22, .iconst 1, 1, 0, 0, 0), (23, .if_icmp .ne 31, 3, 54, 0, 0), (26, .aload_n 0, 1, 0, 0, 0), (27, .getfield 20, 3, 9, 1, 2), (30, .iload 4, 2, 0, 0, 0), (32, .aaload, 1, 0, 0, 0), (33, .iload_n 1, 1, 0, 0, 0), (34, .invokevirtual 209, 3, 136, 1, 13), (37, .ifCond .eq 17, 3, 54, 0, 0), (40, .aload_n 0, 1, 0, 0, 0), (41, .getfield 12, 3, 9, 0, 2), (44, .iload_n 2, 1, 0, 0, 0), (45, .bipush 9, 2, 0, 0, 0), (47, .iload 4, 2, 0, 0, 0), (49, .invokevirtual 104, 3, 125, 3, 16), (52, .iconst 1, 1, 0, 0, 0), (53, .istore_n 3, 1, 0, 0, 0), (54, .iinc 4 1, 3, 0, 0, 0), (57, .goto (-52), 3, 5, 0, 0), (60, .iload_n 3, 1, 0, 0, 0), (61, .ireturn, 1, 0, 0, 0)]
def cu_137 : List (Nat × List Nat) := [(5, [0, 1, 2, 3, 4]), (37, [0, 1, 2, 3, 4]), (52, [0, 1, 2, 4]), (54, [0, 1, 2, 3, 4])]
noncomputable def G_137 : tm_G := fun id as M => if id = 136 then F_136 as M else if id = 125 then F_125 as M else none
noncomputable def F_137 : List Value → tm_M → Option tm_R := tm_m tm_sh none G_137 true cd_137 cu_137 34 5
theorem gg_137 : tm_Gg G_137 := by
  intro id as M r h
  unfold G_137 at h
  rcases tm_ite_e h with ⟨_, h⟩ | ⟨_, h⟩
  · exact gr_136 h
  rcases tm_ite_e h with ⟨_, h⟩ | ⟨_, h⟩
  · exact gr_125 h
  cases h
theorem gm_137 (l : Launch) : ∀ id as M r, G_137 id as M = some r → tm_MA tm_sh l (tm_mt id) as M r := by
  intro id as M r h
  unfold G_137 at h
  rcases tm_ite_e h with ⟨rfl, h⟩ | ⟨_, h⟩
  · exact con_136 l h
  rcases tm_ite_e h with ⟨rfl, h⟩ | ⟨_, h⟩
  · exact con_125 l h
  cases h
theorem gr_137 {as : List Value} {M : tm_M} {r : tm_R} (h : F_137 as M = some r) : tm_gr M r.2 := tm_m_gr gg_137 h
theorem ck_137 : tm_cdk (tm_mt 137).1.cls false tm_mt (tm_mt 137) true cd_137 := tm_cdk_of (LK := lk_RX9) (ix := [11, 18, 11, 53, 44, 45]) lc_RX9 (by decide +kernel)
theorem con_137 (l : Launch) {as : List Value} {M : tm_M} {r : tm_R} (h : F_137 as M = some r) : tm_MA tm_sh l (tm_mt 137) as M r := tm_sound (t := tm_mt 137) tm_Sok_ok tm_CL_ok gg_137 (gm_137 l) (fun _ _ => ⟨rfl, rfl⟩) ck_137 (by decide +kernel) (fun h => by cases h) (fun _ _ _ _ => tm_nos_all (by decide +kernel)) h
def cd_138 : List tm_E := [(0, .iconst 0, 1, 0, 0, 0), (1, .istore_n 1, 1, 0, 0, 0), (2, .iload_n 1, 1, 0, 0, 0), (3, .bipush 6, 2, 0, 0, 0), (5, .if_icmp .ge 28, 3, 33, 0, 0), (8, .aload_n 0, 1, 0, 0, 0), (9, .getfield 20, 3, 9, 1, 2), (12, .iload_n 1, 1, 0, 0, 0), (13, .aaload, 1, 0, 0, 0), (14, .invokevirtual 212, 3, 110, 0, 12), (17, .aload_n 0, 1, 0, 0, 0), (18, .getfield 20, 3, 9, 1, 2), (21, .iload_n 1, 1, 0, 0, 0), (22, .aaload, 1, 0, 0, 0), (23, .iconst 0, 1, 0, 0, 0), (24, .putfield 119, 3, 3, 1, 0), (27, .iinc 1 1, 3, 0, 0, 0), (30, .goto (-28), 3, 2, 0, 0), (33, .return_, 1, 0, 0, 0)]
def cu_138 : List (Nat × List Nat) := [(2, [0, 1]), (17, [0, 1])]
noncomputable def G_138 : tm_G := fun id as M => if id = 110 then F_110 as M else none
noncomputable def F_138 : List Value → tm_M → Option tm_R := tm_m tm_sh none G_138 false cd_138 cu_138 20 2
theorem gg_138 : tm_Gg G_138 := by
  intro id as M r h
  unfold G_138 at h
  rcases tm_ite_e h with ⟨_, h⟩ | ⟨_, h⟩
  · exact gr_110 h
  cases h
theorem gm_138 (l : Launch) : ∀ id as M r, G_138 id as M = some r → tm_MA tm_sh l (tm_mt id) as M r := by
  intro id as M r h
  unfold G_138 at h
  rcases tm_ite_e h with ⟨rfl, h⟩ | ⟨_, h⟩
  · exact con_110 l h
  cases h
theorem gr_138 {as : List Value} {M : tm_M} {r : tm_R} (h : F_138 as M = some r) : tm_gr M r.2 := tm_m_gr gg_138 h
theorem ck_138 : tm_cdk (tm_mt 138).1.cls false tm_mt (tm_mt 138) false cd_138 := tm_cdk_of (LK := lk_RX9) (ix := [11, 54, 11, 27]) lc_RX9 (by decide +kernel)
theorem con_138 (l : Launch) {as : List Value} {M : tm_M} {r : tm_R} (h : F_138 as M = some r) : tm_MA tm_sh l (tm_mt 138) as M r := tm_sound (t := tm_mt 138) tm_Sok_ok tm_CL_ok gg_138 (gm_138 l) (fun _ _ => ⟨rfl, rfl⟩) ck_138 (by decide +kernel) (fun h => by cases h) (fun _ _ _ _ => tm_nos_all (by decide +kernel)) h
def cd_139 : List tm_E := [(0, .iload_n 1, 1, 0, 0, 0), (1, .ifCond .lt 12, 3, 13, 0, 0), (4, .iload_n 1, 1, 0, 0, 0), (5, .aload_n 0, 1, 0, 0, 0), (6, .getfield 26, 3, 4, 4, 2), (9, .arraylength, 1, 0, 0, 0), (10, .if_icmp .lt 5, 3, 15, 0, 0), (13, .iconst 0, 1, 0, 0, 0), (14, .ireturn, 1, 0, 0, 0), (15, .aload_n 0, 1, 0, 0, 0), (16, .getfield 26, 3, 4, 4, 2), (19, .iload_n 1, 1, 0, 0, 0), (20, .dup2, 1, 0, 0, 0), (21, .iaload, 1, 0, 0, 0), (22, .iconst 1, 1, 0, 0, 0), (23, .iadd, 1, 0, 0, 0), (24, .iastore, 1, 0, 0, 0), (25, .aload_n 0, 1, 0, 0, 0), (26, .getfield 26, 3, 4, 4, 2), (29, .iload_n 1, 1, 0, 0, 0), (30, .iaload, 1, 0, 0, 0), (31, .lookupswitch 31 #[(1, 25), (2, 27)], 25, 0, 0, 0), (56, .iload_n 2, 1, 0, 0, 0), (57, .ireturn, 1, 0, 0, 0), (58, .iload_n 2, 1, 0, 0, 0), (59, .iconst 2, 1, 0, 0, 0), (60, .idiv, 1, 0, 0, 0), (61, .ireturn, 1, 0, 0, 0), (62, .iconst 0, 1, 0, 0, 0), (63, .ireturn, 1, 0, 0, 0)]
def cu_139 : List (Nat × List Nat) := [(13, [])]
def G_139 : tm_G := fun _ _ _ => none
noncomputable def F_139 : List Value → tm_M → Option tm_R := tm_m tm_sh none G_139 false cd_139 cu_139 31 3
theorem gg_139 : tm_Gg G_139 := fun _ _ _ _ h => by cases h
theorem gm_139 (l : Launch) : ∀ id as M r, G_139 id as M = some r → tm_MA tm_sh l (tm_mt id) as M r := fun _ _ _ _ h => by cases h
theorem gr_139 {as : List Value} {M : tm_M} {r : tm_R} (h : F_139 as M = some r) : tm_gr M r.2 := tm_m_gr gg_139 h
theorem ck_139 : tm_cdk (tm_mt 139).1.cls false tm_mt (tm_mt 139) false cd_139 := tm_cdk_of (LK := lk_RX4) (ix := [14, 14, 14]) lc_RX4 (by decide +kernel)
theorem con_139 (l : Launch) {as : List Value} {M : tm_M} {r : tm_R} (h : F_139 as M = some r) : tm_MA tm_sh l (tm_mt 139) as M r := tm_sound (t := tm_mt 139) tm_Sok_ok tm_CL_ok gg_139 (gm_139 l) (fun _ _ => ⟨rfl, rfl⟩) ck_139 (by decide +kernel) (fun h => by cases h) (fun _ _ _ _ => tm_nos_all (by decide +kernel)) h
def cd_140 : List tm_E := [(0, .aload_n 0, 1, 0, 0, 0), (1, .aload_n 2, 1, 0, 0, 0), (2, .getfield 61, 3, 3, 3, 0), (5, .iload_n 3, 1, 0, 0, 0), (6, .invokevirtual 66, 3, 139, 2, 17), (9, .istore 4, 2, 0, 0, 0), (11, .aload_n 0, 1, 0, 0, 0), (12, .getfield 46, 3, 4, 8, 0), (15, .bipush 100, 2, 0, 0, 0), (17, .if_icmp .ge 77, 3, 94, 0, 0), (20, .aload_n 0, 1, 0, 0, 0), (21, .getfield 46, 3, 4, 8, 0), (24, .iconst 5, 1, 0, 0, 0), (25, .imul, 1, 0, 0, 0), (26, .istore 5, 2, 0, 0, 0), (28, .aload_n 0, 1, 0, 0, 0), (29, .getfield 15, 3, 4, 1, 2), (32, .iload 5, 2, 0, 0, 0), (34, .aload_n 2, 1, 0, 0, 0), (35, .getfield 69, 3, 3, 5, 0), (38, .iastore, 1, 0, 0, 0), (39, .aload_n 0, 1, 0, 0, 0), (40, .getfield 15, 3, 4, 1, 2), (43, .iload 5, 2, 0, 0, 0), (45, .iconst 1, 1, 0, 0, 0), (46, .iadd, 1, 0, 0, 0), (47, .aload_n 2, 1, 0, 0, 0), (48, .getfield 61, 3, 3, 3, 0), (51, .iastore, 1, 0, 0, 0), (52, .aload_n 0, 1, 0, 0, 0), (53, .getfield 15, 3, 4, 1, 2), (56, .iload 5, 2, 0, 0, 0), (58, .iconst 2, 1, 0, 0, 0), (59, .iadd, 1, 0, 0, 0), (60, .iload_n 1, 1, 0, 0, 0), (61, .iastore, 1, 0, 0, 0), (62, .aload_n 0, 1, 0, 0, 0), (63, .getfield 15, 3, 4, 1, 2), (66, .iload 5, 2, 0, 0, 0), (68, .iconst 3, 1, 0, 0, 0), (69, .iadd, 1, 0, 0, 0), (70, .aload_n 2, 1, 0, 0, 0), (71, .getfield 72, 3, 3, 4, 0), (74, .ifCond .eq 7, 3, 81, 0, 0), (77, .iconst 1, 1, 0, 0, 0), (78, .goto 4, 3, 82, 0, 0), (81, .iconst 0, 1, 0, 0, 0), (82, .iastore, 1, 0, 0, 0), (83, .aload_n 0, 1, 0, 0, 0), (84, .getfield 15, 3, 4, 1, 2), (87, .iload 5, 2, 0, 0, 0), (89, .iconst 4, 1, 0, 0, 0), (90, .iadd, 1, 0, 0, 0), (91, .iload 4, 2, 0, 0, 0), (93, .iastore, 1, 0, 0, 0), (94, .aload_n 0, 1, 0, 0, 0), (95, .dup, 1, 0, 0, 0), (96, .getfield 46, 3, 4, 8, 0), (99, .iconst 1, 1, 0, 0, 0), (100, .iadd, 1, 0, 0, 0), (101, .putfield 46, 3, 4, 8, 0), (104, .aload_n 0, 1, 0, 0, 0), (105, .dup, 1, 0, 0, 0), (106, .getfield 49, 3, 4, 9, 0), (109, .iload 4, 2, 0, 0, 0), (111, .iadd, 1, 0, 0, 0), (112, .putfield 49, 3, 4, 9, 0), (115, .return_, 1, 0, 0, 0)]
def cu_140 : List (Nat × List Nat) := [(9, [0, 1, 2]), (82, [0, 4, 5]), (94, [0, 4])]
noncomputable def G_140 : tm_G := fun id as M => if id = 139 then F_139 as M else none
noncomputable def F_140 : List Value → tm_M → Option tm_R := tm_m tm_sh none G_140 false cd_140 cu_140 69 6
theorem gg_140 : tm_Gg G_140 := by
  intro id as M r h
  unfold G_140 at h
  rcases tm_ite_e h with ⟨_, h⟩ | ⟨_, h⟩
  · exact gr_139 h
  cases h
theorem gm_140 (l : Launch) : ∀ id as M r, G_140 id as M = some r → tm_MA tm_sh l (tm_mt id) as M r := by
  intro id as M r h
  unfold G_140 at h
  rcases tm_ite_e h with ⟨rfl, h⟩ | ⟨_, h⟩
  · exact con_139 l h
  cases h
theorem gr_140 {as : List Value} {M : tm_M} {r : tm_R} (h : F_140 as M = some r) : tm_gr M r.2 := tm_m_gr gg_140 h
theorem ck_140 : tm_cdk (tm_mt 140).1.cls false tm_mt (tm_mt 140) false cd_140 := tm_cdk_of (LK := lk_RX4) (ix := [25, 27, 28, 28, 29, 30, 29, 25, 29, 29, 31, 29, 28, 11, 32, 12]) lc_RX4 (by decide +kernel)
theorem con_140 (l : Launch) {as : List Value} {M : tm_M} {r : tm_R} (h : F_140 as M = some r) : tm_MA tm_sh l (tm_mt 140) as M r := tm_sound (t := tm_mt 140) tm_Sok_ok tm_CL_ok gg_140 (gm_140 l) (fun _ _ => ⟨rfl, rfl⟩) ck_140 (by decide +kernel) (fun h => by cases h) (fun _ _ _ _ => tm_nos_all (by decide +kernel)) h
def cd_141 : List tm_E := [(0, .iconst 0, 1, 0, 0, 0), (1, .istore_n 3, 1, 0, 0, 0), (2, .iload_n 3, 1, 0, 0, 0), (3, .bipush 6, 2, 0, 0, 0), (5, .if_icmp .ge 112, 3, 117, 0, 0), (8, .aload_n 0, 1, 0, 0, 0), (9, .getfield 20, 3, 9, 1, 2), (12, .iload_n 3, 1, 0, 0, 0), (13, .aaload, 1, 0, 0, 0), (14, .astore 4, 2, 0, 0, 0), (16, .aload 4, 2, 0, 0, 0), (18, .invokevirtual 151, 3, 116, 0, 13), (21, .ifCond .eq 90, 3, 111, 0, 0), (24, .aload_n 1, 1, 0, 0, 0), (25, .aload 4, 2, 0, 0, 0), (27, .getfield 154, 3, 3, 3, 0), (30, .invokevirtual 126, 3, 84, 1, 1), (33, .ifCond .ne 6, 3, 39, 0, 0), (36, .goto 75, 3, 111, 0, 0), (39, .aload_n 1, 1, 0, 0, 0), (40, .getfield 131, 3, 0, 0, 2), (43, .aload 4, 2, 0, 0, 0), (45, .getfield 154, 3, 3, 3, 0), (48, .aaload, 1, 0, 0, 0), (49, .astore 5, 2, 0, 0, 0), (51, .iload_n 2, 1, 0, 0, 0), (52, .aload 4, 2, 0, 0, 0), (54, .getfield 195, 3, 3, 5, 0), (57, .isub, 1, 0, 0, 0), (58, .aload 5, 2, 0, 0, 0), (60, .getfield 215, 3, 8, 4, 0), (63, .iconst 1, 1, 0, 0, 0), (64, .isub, 1, 0, 0, 0), (65, .if_icmp .lt 46, 3, 111, 0, 0), (68, .aload_n 0, 1, 0, 0, 0), (69, .getfield 12, 3, 9, 0, 2), (72, .iload_n 3, 1, 0, 0, 0), (73, .aload 4, 2, 0, 0, 0), (75, .aload 5, 2, 0, 0, 0), (77, .getfield 216, 3, 8, 3, 0), (80, .invokevirtual 219, 3, 140, 3, 16), (83, .aload 4, 2, 0, 0, 0), (85, .aload 4, 2, 0, 0, 0), (87, .getfield 135, 3, 3, 2, 0), (90, .aload 5, 2, 0, 0, 0), (92, .aload 4, 2, 0, 0, 0), (94, .getfield 223, 3, 3, 4, 0), (97, .invokevirtual 226, 3, 85, 1, 33), (100, .iadd, 1, 0, 0, 0), (101, .iconst 3, 1, 0, 0, 0), (102, .iand, 1, 0, 0, 0), (103, .putfield 135, 3, 3, 2, 0), (106, .aload 4, 2, 0, 0, 0), (108, .invokevirtual 212, 3, 110, 0, 12), (111, .iinc 3 1, 3, 0, 0, 0), (114, .goto (-112), 3, 2, 0, 0), (117, .return_, 1, 0, 0, 0)]
def cu_141 : List (Nat × List Nat) := [(2, [0, 1, 2, 3]), (21, [0, 1, 2, 3, 4]), (33, [0, 1, 2, 3, 4]), (83, [0, 1, 2, 3, 4, 5]), (100, [0, 1, 2, 3, 4]), (111, [0, 1, 2, 3])]
noncomputable def G_141 : tm_G := fun id as M => if id = 116 then F_116 as M else if id = 84 then F_84 as M else if id = 140 then F_140 as M else if id = 85 then F_85 as M else if id = 110 then F_110 as M else none
noncomputable def F_141 : List Value → tm_M → Option tm_R := tm_m tm_sh none G_141 false cd_141 cu_141 58 6
theorem gg_141 : tm_Gg G_141 := by
  intro id as M r h
  unfold G_141 at h
  rcases tm_ite_e h with ⟨_, h⟩ | ⟨_, h⟩
  · exact gr_116 h
  rcases tm_ite_e h with ⟨_, h⟩ | ⟨_, h⟩
  · exact gr_84 h
  rcases tm_ite_e h with ⟨_, h⟩ | ⟨_, h⟩
  · exact gr_140 h
  rcases tm_ite_e h with ⟨_, h⟩ | ⟨_, h⟩
  · exact gr_85 h
  rcases tm_ite_e h with ⟨_, h⟩ | ⟨_, h⟩
  · exact gr_110 h
  cases h
theorem gm_141 (l : Launch) : ∀ id as M r, G_141 id as M = some r → tm_MA tm_sh l (tm_mt id) as M r := by
  intro id as M r h
  unfold G_141 at h
  rcases tm_ite_e h with ⟨rfl, h⟩ | ⟨_, h⟩
  · exact con_116 l h
  rcases tm_ite_e h with ⟨rfl, h⟩ | ⟨_, h⟩
  · exact con_84 l h
  rcases tm_ite_e h with ⟨rfl, h⟩ | ⟨_, h⟩
  · exact con_140 l h
  rcases tm_ite_e h with ⟨rfl, h⟩ | ⟨_, h⟩
  · exact con_85 l h
  rcases tm_ite_e h with ⟨rfl, h⟩ | ⟨_, h⟩
  · exact con_110 l h
  cases h
theorem gr_141 {as : List Value} {M : tm_M} {r : tm_R} (h : F_141 as M = some r) : tm_gr M r.2 := tm_m_gr gg_141 h
theorem ck_141 : tm_cdk (tm_mt 141).1.cls false tm_mt (tm_mt 141) false cd_141 := tm_cdk_of (LK := lk_RX9) (ix := [11, 19, 20, 21, 22, 20, 48, 55, 44, 56, 57, 30, 58, 59, 60, 54]) lc_RX9 (by decide +kernel)
theorem con_141 (l : Launch) {as : List Value} {M : tm_M} {r : tm_R} (h : F_141 as M = some r) : tm_MA tm_sh l (tm_mt 141) as M r := tm_sound (t := tm_mt 141) tm_Sok_ok tm_CL_ok gg_141 (gm_141 l) (fun _ _ => ⟨rfl, rfl⟩) ck_141 (by decide +kernel) (fun h => by cases h) (fun _ _ _ _ => tm_nos_all (by decide +kernel)) h
