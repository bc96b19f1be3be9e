/-! codes, functions and contracts of methods -/
def cd_71 : List tm_E := [(0, .iconst 0, 1, 0, 0, 0), (1, .istore_n 2, 1, 0, 0, 0), (2, .iconst 1, 1, 0, 0, 0), (3, .istore_n 3, 1, 0, 0, 0), (4, .iload_n 3, 1, 0, 0, 0), (5, .ifCond .eq 354, 3, 359, 0, 0), (8, .aload_n 0, 1, 0, 0, 0), (9, .invokevirtual 276, 3, 61, 0, 45), (12, .ifCond .eq 347, 3, 359, 0, 0), (15, .aload_n 0, 1, 0, 0, 0), (16, .ldc2_w 204, 3, 1953854062, 0, 0), (19, .invokevirtual 286, 3, 62, 1, 45), (22, .ifCond .eq 7, 3, 29, 0, 0), (25, .iload_n 2, 1, 0, 0, 0), (26, .ifCond .ne 60, 3, 86, 0, 0), (29, .aload_n 0, 1, 0, 0, 0), (30, .ldc2_w 206, 3, 1718775661, 0, 0), (33, .invokevirtual 286, 3, 62, 1, 45), (36, .ifCond .eq 12, 3, 48, 0, 0), (39, .aload_n 0, 1, 0, 0, 0), (40, .getfield 37, 3, 11, 16, 2), (43, .iload_n 1, 1, 0, 0, 0), (44, .iaload, 1, 0, 0, 0), (45, .ifCond .ne 41, 3, 86, 0, 0), (48, .aload_n 0, 1, 0, 0, 0), (49, .ldc2_w 208, 3, 112568465714791, 0, 0), (52, .invokevirtual 286, 3, 62, 1, 45), (55, .ifCond .eq 12, 3, 67, 0, 0), (58, .aload_n 0, 1, 0, 0, 0), (59, .getfield 40, 3, 11, 17, 2), (62, .iload_n 1, 1, 0, 0, 0), (63, .iaload, 1, 0, 0, 0), (64, .ifCond .ge 22, 3, 86, 0, 0), (67, .aload_n 0, 1, 0, 0, 0), (68, .ldc2_w 210, 3, 418431069797, 0, 0), (71, .invokevirtual 286, 3, 62, 1, 45), (74, .ifCond .eq 16, 3, 90, 0, 0), (77, .aload_n 0, 1, 0, 0, 0), (78, .getfield 49, 3, 11, 20, 2), (81, .iload_n 1, 1, 0, 0, 0), (82, .baload, 1, 0, 0, 0), (83, .ifCond .eq 7, 3, 90, 0, 0), (86, .iconst 1, 1, 0, 0, 0), (87, .goto 4, 3, 91, 0, 0), (90, .iconst 0, 1, 0, 0, 0), (91, .istore 4, 2, 0, 0, 0), (93, .iload 4, 2, 0, 0, 0), (95, .ifCond .eq 7, 3, 102, 0, 0), (98, .aload_n 0, 1, 0, 0, 0), (99, .invokevirtual 283, 3, 64, 0, 44), (102, .aload_n 0, 1, 0, 0, 0), (103, .invokevirtual 276, 3, 61, 0, 45), (106, .ifCond .ne 4, 3, 110, 0, 0), (109, .return_, 1, 0, 0, 0), (110, .aload_n 0, 1, 0, 0, 0), (111, .ldc2_w 198, 3, 427121668979, 0, 0), (114, .invokevirtual 333, 3, 69, 1, 45), (117, .ifCond .eq 12, 3, 129, 0, 0), (120, .aload_n 0, 1, 0, 0, 0), (121, .iload_n 1, 1, 0, 0, 0), (122, .iconst 1, 1, 0, 0, 0), (123, .invokevirtual 336, 3, 70, 2, 44), (126, .goto 230, 3, 356, 0, 0), (129, .aload_n 0, 1, 0, 0, 0), (130, .ldc2_w 202, 3, 7300710, 0, 0), (133, .invokevirtual 333, 3, 69, 1, 45), (136, .ifCond .eq 59, 3, 195, 0, 0), (139, .aload_n 0, 1, 0, 0, 0), (140, .ldc2_w 212, 3, 97, 0, 0), (143, .invokevirtual 286, 3, 62, 1, 45), (146, .ifCond .eq 7, 3, 153, 0, 0), (149, .iconst 2, 1, 0, 0, 0), (150, .goto 4, 3, 154, 0, 0), (153, .iconst 3, 1, 0, 0, 0), (154, .istore 5, 2, 0, 0, 0), (156, .aload_n 0, 1, 0, 0, 0), (157, .aload_n 0, 1, 0, 0, 0), (158, .ldc2_w 212, 3, 97, 0, 0), (161, .invokevirtual 286, 3, 62, 1, 45), (164, .ifCond .ne 13, 3, 177, 0, 0), (167, .aload_n 0, 1, 0, 0, 0), (168, .ldc2_w 214, 3, 98, 0, 0), (171, .invokevirtual 286, 3, 62, 1, 45), (174, .ifCond .eq 7, 3, 181, 0, 0), (177, .iconst 1, 1, 0, 0, 0), (178, .goto 4, 3, 182, 0, 0), (181, .iconst 0, 1, 0, 0, 0), (182, .invokevirtual 318, 3, 66, 1, 44), (185, .aload_n 0, 1, 0, 0, 0), (186, .iload_n 1, 1, 0, 0, 0), (187, .iload 5, 2, 0, 0, 0), (189, .invokevirtual 336, 3, 70, 2, 44), (192, .goto 164, 3, 356, 0, 0), (195, .aload_n 0, 1, 0, 0, 0), (196, .ldc2_w 204, 3, 1953854062, 0, 0), (199, .invokevirtual 333, 3, 69, 1, 45), (202, .ifCond .eq 20, 3, 222, 0, 0), (205, .aload_n 0, 1, 0, 0, 0), (206, .getfield 34, 3, 11, 15, 2), (209, .iload_n 1, 1, 0, 0, 0), (210, .aload_n 0, 1, 0, 0, 0), (211, .iconst 1, 1, 0, 0, 0), (212, .iconst 3, 1, 0, 0, 0), (213, .invokevirtual 322, 3, 67, 2, 45), (216, .iastore, 1, 0, 0, 0), (217, .iconst 1, 1, 0, 0, 0), (218, .istore_n 2, 1, 0, 0, 0), (219, .goto 137, 3, 356, 0, 0), (222, .aload_n 0, 1, 0, 0, 0), (223, .ldc2_w 206, 3, 1718775661, 0, 0), (226, .invokevirtual 333, 3, 69, 1, 45), (229, .ifCond .eq 80, 3, 309, 0, 0), (232, .aload_n 0, 1, 0, 0, 0), (233, .getfield 37, 3, 11, 16, 2), (236, .iload_n 1, 1, 0, 0, 0), (237, .aload_n 0, 1, 0, 0, 0), (238, .ldc2_w 216, 3, 108, 0, 0), (241, .invokevirtual 286, 3, 62, 1, 45), (244, .ifCond .eq 7, 3, 251, 0, 0), (247, .iconst 1, 1, 0, 0, 0), (248, .goto 18, 3, 266, 0, 0), (251, .aload_n 0, 1, 0, 0, 0), (252, .ldc2_w 218, 3, 114, 0, 0), (255, .invokevirtual 286, 3, 62, 1, 45), (258, .ifCond .eq 7, 3, 265, 0, 0), (261, .iconst 2, 1, 0, 0, 0), (262, .goto 4, 3, 266, 0, 0), (265, .iconst 3, 1, 0, 0, 0), (266, .iastore, 1, 0, 0, 0), (267, .aload_n 0, 1, 0, 0, 0), (268, .aload_n 0, 1, 0, 0, 0), (269, .ldc2_w 216, 3, 108, 0, 0), (272, .invokevirtual 286, 3, 62, 1, 45), (275, .ifCond .ne 23, 3, 298, 0, 0), (278, .aload_n 0, 1, 0, 0, 0), (279, .ldc2_w 218, 3, 114, 0, 0), (282, .invokevirtual 286, 3, 62, 1, 45), (285, .ifCond .ne 13, 3, 298, 0, 0), (288, .aload_n 0, 1, 0, 0, 0), (289, .ldc2_w 214, 3, 98, 0, 0), (292, .invokevirtual 286, 3, 62, 1, 45), (295, .ifCond .eq 7, 3, 302, 0, 0), (298, .iconst 1, 1, 0, 0, 0), (299, .goto 4, 3, 303, 0, 0), (302, .iconst 0, 1, 0, 0, 0), (303, .invokevirtual 318, 3, 66, 1, 44), (306, .goto 50, 3, 356, 0, 0), (309, .aload_n 0, 1, 0, 0, 0), (310, .ldc2_w 208, 3, 112568465714791, 0, 0), (313, .invokevirtual 333, 3, 69, 1, 45), (316, .ifCond .eq 18, 3, 334, 0, 0), (319, .aload_n 0, 1, 0, 0, 0), (320, .getfield 40, 3, 11, 17, 2), (323, .iload_n 1, 1, 0, 0, 0), (324, .aload_n 0, 1, 0, 0, 0), (325, .iconst 0, 1, 0, 0, 0), (326, .iconst 3, 1, 0, 0, 0), (327, .invokevirtual 322, 3, 67, 2, 45), (330, .iastore, 1, 0, 0, 0), (331, .goto 25, 3, 356, 0, 0), (334, .aload_n 0, 1, 0, 0, 0), (335, .ldc2_w 210, 3, 418431069797, 0, 0), (338, .invokevirtual 333, 3, 69, 1, 45), (341, .ifCond .eq 13, 3, 354, 0, 0), (344, .aload_n 0, 1, 0, 0, 0), (345, .getfield 49, 3, 11, 20, 2), (348, .iload_n 1, 1, 0, 0, 0), (349, .iconst 1, 1, 0, 0, 0), (350, .bastore, 1, 0, 0, 0), (351, .goto 5, 3, 356, 0, 0), (354, .iconst 0, 1, 0, 0, 0), (355, .istore_n 3, 1, 0, 0, 0), (356, .goto (-352), 3, 4, 0, 0), (359, .return_, 1, 0, 0, 0)]
def cu_71 : List (Nat × List Nat) := [(4, [0, 1, 2, 3]), (12, [0, 1, 2, 3]), (22, [0, 1, 2, 3]), (29, [0, 1, 2, 3]), (36, [0, 1, 2, 3]), (48, [0, 1, 2, 3]), (55, [0, 1, 2, 3]), (67, [0, 1, 2, 3]), (74, [0, 1, 2, 3]), (86, [0, 1, 2, 3]), (90, [0, 1, 2, 3]), (91, [0, 1, 2, 3]), (102, [0, 1, 2, 3]), (106, [0, 1, 2, 3]), (117, [0, 1, 2, 3]), (126, [0, 1, 2, 3]), (136, [0, 1, 2, 3]), (146, [0, 1, 2, 3]), (154, [0, 1, 2, 3]), (164, [0, 1, 2, 3, 5]), (174, [0, 1, 2, 3, 5]), (177, [0, 1, 2, 3, 5]), (182, [0, 1, 2, 3, 5]), (185, [0, 1, 2, 3, 5]), (192, [0, 1, 2, 3]), (202, [0, 1, 2, 3]), (216, [0, 1, 3]), (229, [0, 1, 2, 3]), (244, [0, 1, 2, 3]), (258, [0, 1, 2, 3]), (266, [0, 1, 2, 3]), (275, [0, 1, 2, 3]), (285, [0, 1, 2, 3]), (295, [0, 1, 2, 3]), (298, [0, 1, 2, 3]), (303, [0, 1, 2, 3]), (306, [0, 1, 2, 3]), (316, [0, 1, 2, 3]), (330, [0, 1, 2, 3]), (341, [0, 1, 2, 3]), (356, [0, 1, 2, 3]), (359, [])]
noncomputable def G_71 : tm_G := fun id as M => if id = 61 then F_61 as M else if id = 62 then F_62 as M else if id = 64 then F_64 as M else if id = 69 then F_69 as M else if id = 70 then F_70 as M else if id = 66 then F_66 as M else if id = 67 then F_67 as M else none
noncomputable def F_71 : List Value → tm_M → Option tm_R := tm_m tm_sh none G_71 false cd_71 cu_71 175 6
theorem gg_71 : tm_Gg G_71 := by
  intro id as M r h
  unfold G_71 at h
  rcases tm_ite_e h with ⟨_, h⟩ | ⟨_, h⟩
  · exact gr_61 h
  rcases tm_ite_e h with ⟨_, h⟩ | ⟨_, h⟩
  · exact gr_62 h
  rcases tm_ite_e h with ⟨_, h⟩ | ⟨_, h⟩
  · exact gr_64 h
  rcases tm_ite_e h with ⟨_, h⟩ | ⟨_, h⟩
  · exact gr_69 h
  rcases tm_ite_e h with ⟨_, h⟩ | ⟨_, h⟩
  · exact gr_70 h
  rcases tm_ite_e h with ⟨_, h⟩ | ⟨_, h⟩
  · exact gr_66 h
  rcases tm_ite_e h with ⟨_, h⟩ | ⟨_, h⟩
  · exact gr_67 h
  cases h
theorem gm_71 (l : Launch) : ∀ id as M r, G_71 id as M = some r → tm_MA tm_sh l (tm_mt id) as M r := by
  intro id as M r h
  unfold G_71 at h
  rcases tm_ite_e h with ⟨rfl, h⟩ | ⟨_, h⟩
  · exact con_61 l h
  rcases tm_ite_e h with ⟨rfl, h⟩ | ⟨_, h⟩
  · exact con_62 l h
  rcases tm_ite_e h with ⟨rfl, h⟩ | ⟨_, h⟩
  · exact con_64 l h
  rcases tm_ite_e h with ⟨rfl, h⟩ | ⟨_, h⟩
  · exact con_69 l h
  rcases tm_ite_e h with ⟨rfl, h⟩ | ⟨_, h⟩
  · exact con_70 l h
  rcases tm_ite_e h with ⟨rfl, h⟩ | ⟨_, h⟩
  · exact con_66 l h
  rcases tm_ite_e h with ⟨rfl, h⟩ | ⟨_, h⟩
  · exact con_67 l h
  cases h
theorem gr_71 {as : List Value} {M : tm_M} {r : tm_R} (h : F_71 as M = some r) : tm_gr M r.2 := tm_m_gr gg_71 h
theorem ck_71 : tm_cdk (tm_mt 71).1.cls false tm_mt (tm_mt 71) false cd_71 := tm_cdk_of (LK := lk_RX11) (ix := [112, 77, 115, 78, 115, 120, 79, 115, 121, 80, 115, 122, 114, 112, 74, 119, 123, 76, 119, 81, 115, 81, 115, 82, 115, 124, 123, 77, 119, 125, 117, 78, 119, 120, 83, 115, 84, 115, 83, 115, 84, 115, 82, 115, 124, 79, 119, 121, 117, 80, 119, 122]) lc_RX11 (by decide +kernel)
theorem con_71 (l : Launch) {as : List Value} {M : tm_M} {r : tm_R} (h : F_71 as M = some r) : tm_MA tm_sh l (tm_mt 71) as M r := tm_sound (t := tm_mt 71) tm_Sok_ok tm_CL_ok gg_71 (gm_71 l) (fun _ _ => ⟨rfl, rfl⟩) ck_71 (by decide +kernel) (fun h => by cases h) (fun _ _ _ _ => tm_nos_all (by decide +kernel)) h
def cd_72 : List tm_E := [(0, .aload_n 0, 1, 0, 0, 0), (1, .ldc2_w 192, 3, 500135715691, 0, 0), (4, .invokevirtual 286, 3, 62, 1, 45), (7, .ifCond .eq 17, 3, 24, 0, 0), (10, .aload_n 0, 1, 0, 0, 0), (11, .getfield 24, 3, 11, 12, 2), (14, .aload_n 0, 1, 0, 0, 0), (15, .getfield 298, 3, 11, 22, 0), (18, .iaload, 1, 0, 0, 0), (19, .bipush 12, 2, 0, 0, 0), (21, .if_icmp .ne 7, 3, 28, 0, 0), (24, .aload_n 0, 1, 0, 0, 0), (25, .invokevirtual 283, 3, 64, 0, 44), (28, .aload_n 0, 1, 0, 0, 0), (29, .invokevirtual 276, 3, 61, 0, 45), (32, .ifCond .ne 4, 3, 36, 0, 0), (35, .return_, 1, 0, 0, 0), (36, .aload_n 0, 1, 0, 0, 0), (37, .invokevirtual 280, 3, 60, 0, 44), (40, .bipush 12, 2, 0, 0, 0), (42, .aload_n 0, 1, 0, 0, 0), (43, .getfield 298, 3, 11, 22, 0), (46, .imul, 1, 0, 0, 0), (47, .aload_n 0, 1, 0, 0, 0), (48, .getfield 24, 3, 11, 12, 2), (51, .aload_n 0, 1, 0, 0, 0), (52, .getfield 298, 3, 11, 22, 0), (55, .iaload, 1, 0, 0, 0), (56, .iadd, 1, 0, 0, 0), (57, .istore_n 1, 1, 0, 0, 0), (58, .aload_n 0, 1, 0, 0, 0), (59, .getfield 248, 3, 11, 8, 0), (62, .iconst 2, 1, 0, 0, 0), (63, .if_icmp .ne 27, 3, 90, 0, 0), (66, .aload_n 0, 1, 0, 0, 0), (67, .aload_n 0, 1, 0, 0, 0), (68, .getfield 298, 3, 11, 22, 0), (71, .aload_n 0, 1, 0, 0, 0), (72, .getfield 255, 3, 11, 10, 1), (75, .invokevirtual 314, 3, 65, 2, 45), (78, .ifCond .lt 12, 3, 90, 0, 0), (81, .aload_n 0, 1, 0, 0, 0), (82, .iconst 3, 1, 0, 0, 0), (83, .aload_n 0, 1, 0, 0, 0), (84, .getfield 241, 3, 11, 6, 0), (87, .invokevirtual 272, 3, 63, 2, 44), (90, .aload_n 0, 1, 0, 0, 0), (91, .getfield 20, 3, 11, 11, 2), (94, .iload_n 1, 1, 0, 0, 0), (95, .aload_n 0, 1, 0, 0, 0), (96, .getfield 255, 3, 11, 10, 1), (99, .lastore, 1, 0, 0, 0), (100, .aload_n 0, 1, 0, 0, 0), (101, .aload_n 0, 1, 0, 0, 0), (102, .getfield 248, 3, 11, 8, 0), (105, .iconst 2, 1, 0, 0, 0), (106, .if_icmp .ne 7, 3, 113, 0, 0), (109, .iconst 1, 1, 0, 0, 0), (110, .goto 4, 3, 114, 0, 0), (113, .iconst 0, 1, 0, 0, 0), (114, .invokevirtual 318, 3, 66, 1, 44), (117, .aload_n 0, 1, 0, 0, 0), (118, .aload_n 0, 1, 0, 0, 0), (119, .ldc2_w 194, 3, 512970880104, 0, 0), (122, .invokevirtual 286, 3, 62, 1, 45), (125, .invokevirtual 318, 3, 66, 1, 44), (128, .aload_n 0, 1, 0, 0, 0), (129, .getfield 28, 3, 11, 13, 2), (132, .iload_n 1, 1, 0, 0, 0), (133, .aload_n 0, 1, 0, 0, 0), (134, .iconst 0, 1, 0, 0, 0), (135, .sipush 999, 3, 0, 0, 0), (138, .invokevirtual 322, 3, 67, 2, 45), (141, .iastore, 1, 0, 0, 0), (142, .aload_n 0, 1, 0, 0, 0), (143, .aload_n 0, 1, 0, 0, 0), (144, .bipush 58, 2, 0, 0, 0), (146, .invokevirtual 326, 3, 68, 1, 45), (149, .invokevirtual 318, 3, 66, 1, 44), (152, .aload_n 0, 1, 0, 0, 0), (153, .aload_n 0, 1, 0, 0, 0), (154, .ldc2_w 196, 3, 1717921140, 0, 0), (157, .invokevirtual 286, 3, 62, 1, 45), (160, .invokevirtual 318, 3, 66, 1, 44), (163, .aload_n 0, 1, 0, 0, 0), (164, .invokevirtual 276, 3, 61, 0, 45), (167, .ifCond .eq 15, 3, 182, 0, 0), (170, .aload_n 0, 1, 0, 0, 0), (171, .getfield 248, 3, 11, 8, 0), (174, .iconst 5, 1, 0, 0, 0), (175, .if_icmp .eq 7, 3, 182, 0, 0), (178, .aload_n 0, 1, 0, 0, 0), (179, .invokevirtual 283, 3, 64, 0, 44), (182, .aload_n 0, 1, 0, 0, 0), (183, .invokevirtual 276, 3, 61, 0, 45), (186, .ifCond .ne 4, 3, 190, 0, 0), (189, .return_, 1, 0, 0, 0), (190, .aload_n 0, 1, 0, 0, 0), (191, .getfield 31, 3, 11, 14, 2), (194, .iload_n 1, 1, 0, 0, 0), (195, .aload_n 0, 1, 0, 0, 0), (196, .getfield 238, 3, 11, 7, 0), (199, .aload_n 0, 1, 0, 0, 0), (200, .getfield 241, 3, 11, 6, 0), (203, .isub, 1, 0, 0, 0), (204, .iconst 2, 1, 0, 0, 0), (205, .isub, 1, 0, 0, 0), (206, .iconst 4, 1, 0, 0, 0), (207, .idiv, 1, 0, 0, 0), (208, .iastore, 1, 0, 0, 0), (209, .iconst 0, 1, 0, 0, 0), (210, .istore_n 2, 1, 0, 0, 0), (211, .iload_n 2, 1, 0, 0, 0), (212, .iconst 4, 1, 0, 0, 0), (213, .aload_n 0, 1, 0, 0, 0), (214, .getfield 31, 3, 11, 14, 2), (217, .iload_n 1, 1, 0, 0, 0), (218, .iaload, 1, 0, 0, 0), (219, .imul, 1, 0, 0, 0), (220, .if_icmp .ge 35, 3, 255, 0, 0), (223, .aload_n 0, 1, 0, 0, 0), (224, .getfield 43, 3, 11, 18, 2), (227, .bipush 32, 2, 0, 0, 0), (229, .iload_n 1, 1, 0, 0, 0), (230, .imul, 1, 0, 0, 0), (231, .iload_n 2, 1, 0, 0, 0), (232, .iadd, 1, 0, 0, 0), (233, .aload_n 0, 1, 0, 0, 0), (234, .aload_n 0, 1, 0, 0, 0), (235, .getfield 241, 3, 11, 6, 0), (238, .iconst 1, 1, 0, 0, 0), (239, .iadd, 1, 0, 0, 0), (240, .iload_n 2, 1, 0, 0, 0), (241, .iadd, 1, 0, 0, 0), (242, .invokevirtual 244, 3, 55, 1, 45), (245, .invokestatic 269, 3, 59, 1, 1), (248, .iastore, 1, 0, 0, 0), (249, .iinc 2 1, 3, 0, 0, 0), (252, .goto (-41), 3, 211, 0, 0), (255, .iconst 0, 1, 0, 0, 0), (256, .istore_n 2, 1, 0, 0, 0), (257, .iload_n 2, 1, 0, 0, 0), (258, .bipush 8, 2, 0, 0, 0), (260, .if_icmp .ge 21, 3, 281, 0, 0), (263, .aload_n 0, 1, 0, 0, 0), (264, .getfield 46, 3, 11, 19, 2), (267, .bipush 8, 2, 0, 0, 0), (269, .iload_n 1, 1, 0, 0, 0), (270, .imul, 1, 0, 0, 0), (271, .iload_n 2, 1, 0, 0, 0), (272, .iadd, 1, 0, 0, 0), (273, .iconst (-1), 1, 0, 0, 0), (274, .iastore, 1, 0, 0, 0), (275, .iinc 2 1, 3, 0, 0, 0), (278, .goto (-21), 3, 257, 0, 0), (281, .aload_n 0, 1, 0, 0, 0), (282, .getfield 34, 3, 11, 15, 2), (285, .iload_n 1, 1, 0, 0, 0), (286, .iconst 0, 1, 0, 0, 0), (287, .iastore, 1, 0, 0, 0), (288, .aload_n 0, 1, 0, 0, 0), (289, .getfield 37, 3, 11, 16, 2), (292, .iload_n 1, 1, 0, 0, 0), (293, .iconst 0, 1, 0, 0, 0), (294, .iastore, 1, 0, 0, 0), (295, .aload_n 0, 1, 0, 0, 0), (296, .getfield 40, 3, 11, 17, 2), (299, .iload_n 1, 1, 0, 0, 0), (300, .iconst (-1), 1, 0, 0, 0), (301, .iastore, 1, 0, 0, 0), (302, .aload_n 0, 1, 0, 0, 0), (303, .getfield 49, 3, 11, 20, 2), (306, .iload_n 1, 1, 0, 0, 0), (307, .iconst 0, 1, 0, 0, 0), (308, .bastore, 1, 0, 0, 0), (309, .aload_n 0, 1, 0, 0, 0), (310, .invokevirtual 280, 3, 60, 0, 44), (313, .aload_n 0, 1, 0, 0, 0), (314, .iload_n 1, 1, 0, 0, 0), (315, .invokevirtual 329, 3, 71, 1, 44), (318, .aload_n 0, 1, 0, 0, 0), (319, .aload_n 0, 1, 0, 0, 0), (320, .bipush 59, 2, 0, 0, 0), (322, .invokevirtual 326, 3, 68, 1, 45), (325, .invokevirtual 318, 3, 66, 1, 44), (328, .aload_n 0, 1, 0, 0, 0), (329, .getfield 24, 3, 11, 12, 2), (332, .aload_n 0, 1, 0, 0, 0), (333, .getfield 298, 3, 11, 22, 0), (336, .dup2, 1, 0, 0, 0), (337, .iaload, 1, 0, 0, 0), (338, .iconst 1, 1, 0, 0, 0), (339, .iadd, 1, 0, 0, 0), (340, .iastore, 1, 0, 0, 0), (341, .return_, 1, 0, 0, 0)]
def cu_72 : List (Nat × List Nat) := [(7, [0]), (24, [0]), (28, [0]), (32, [0]), (40, [0]), (78, [0, 1]), (90, [0, 1]), (114, [0, 1]), (117, [0, 1]), (125, [0, 1]), (128, [0, 1]), (141, [0, 1]), (149, [0, 1]), (152, [0, 1]), (160, [0, 1]), (163, [0, 1]), (167, [0, 1]), (182, [0, 1]), (186, [0, 1]), (211, [0, 1, 2]), (245, [0, 1, 2]), (248, [0, 1, 2]), (257, [0, 1, 2]), (313, [0, 1]), (318, [0]), (325, [0]), (328, [0])]
noncomputable def G_72 : tm_G := fun id as M => if id = 62 then F_62 as M else if id = 64 then F_64 as M else if id = 61 then F_61 as M else if id = 60 then F_60 as M else if id = 65 then F_65 as M else if id = 63 then F_63 as M else if id = 66 then F_66 as M else if id = 67 then F_67 as M else if id = 68 then F_68 as M else if id = 55 then F_55 as M else if id = 59 then F_59 as M else if id = 71 then F_71 as M else none
noncomputable def F_72 : List Value → tm_M → Option tm_R := tm_m tm_sh none G_72 false cd_72 cu_72 196 3
theorem gg_72 : tm_Gg G_72 := by
  intro id as M r h
  unfold G_72 at h
  rcases tm_ite_e h with ⟨_, h⟩ | ⟨_, h⟩
  · exact gr_62 h
  rcases tm_ite_e h with ⟨_, h⟩ | ⟨_, h⟩
  · exact gr_64 h
  rcases tm_ite_e h with ⟨_, h⟩ | ⟨_, h⟩
  · exact gr_61 h
  rcases tm_ite_e h with ⟨_, h⟩ | ⟨_, h⟩
  · exact gr_60 h
  rcases tm_ite_e h with ⟨_, h⟩ | ⟨_, h⟩
  · exact gr_65 h
  rcases tm_ite_e h with ⟨_, h⟩ | ⟨_, h⟩
  · exact gr_63 h
  rcases tm_ite_e h with ⟨_, h⟩ | ⟨_, h⟩
  · exact gr_66 h
  rcases tm_ite_e h with ⟨_, h⟩ | ⟨_, h⟩
  · exact gr_67 h
  rcases tm_ite_e h with ⟨_, h⟩ | ⟨_, h⟩
  · exact gr_68 h
  rcases tm_ite_e h with ⟨_, h⟩ | ⟨_, h⟩
  · exact gr_55 h
  rcases tm_ite_e h with ⟨_, h⟩ | ⟨_, h⟩
  · exact gr_59 h
  rcases tm_ite_e h with ⟨_, h⟩ | ⟨_, h⟩
  · exact gr_71 h
  cases h
theorem gm_72 (l : Launch) : ∀ id as M r, G_72 id as M = some r → tm_MA tm_sh l (tm_mt id) as M r := by
  intro id as M r h
  unfold G_72 at h
  rcases tm_ite_e h with ⟨rfl, h⟩ | ⟨_, h⟩
  · exact con_62 l h
  rcases tm_ite_e h with ⟨rfl, h⟩ | ⟨_, h⟩
  · exact con_64 l h
  rcases tm_ite_e h with ⟨rfl, h⟩ | ⟨_, h⟩
  · exact con_61 l h
  rcases tm_ite_e h with ⟨rfl, h⟩ | ⟨_, h⟩
  · exact con_60 l h
  rcases tm_ite_e h with ⟨rfl, h⟩ | ⟨_, h⟩
  · exact con_65 l h
  rcases tm_ite_e h with ⟨rfl, h⟩ | ⟨_, h⟩
  · exact con_63 l h
  rcases tm_ite_e h with ⟨rfl, h⟩ | ⟨_, h⟩
  · exact con_66 l h
  rcases tm_ite_e h with ⟨rfl, h⟩ | ⟨_, h⟩
  · exact con_67 l h
  rcases tm_ite_e h with ⟨rfl, h⟩ | ⟨_, h⟩
  · exact con_68 l h
  rcases tm_ite_e h with ⟨rfl, h⟩ | ⟨_, h⟩
  · exact con_55 l h
  rcases tm_ite_e h with ⟨rfl, h⟩ | ⟨_, h⟩
  · exact con_59 l h
  rcases tm_ite_e h with ⟨rfl, h⟩ | ⟨_, h⟩
  · exact con_71 l h
  cases h
theorem gr_72 {as : List Value} {M : tm_M} {r : tm_R} (h : F_72 as M = some r) : tm_gr M r.2 := tm_m_gr gg_72 h
theorem ck_72 : tm_cdk (tm_mt 72).1.cls false tm_mt (tm_mt 72) false cd_72 := tm_cdk_of (LK := lk_RX11) (ix := [71, 115, 110, 126, 114, 112, 113, 126, 110, 126, 108, 126, 101, 127, 96, 109, 111, 101, 108, 124, 72, 115, 124, 128, 117, 129, 124, 73, 115, 124, 112, 108, 114, 112, 116, 94, 96, 116, 130, 96, 97, 106, 118, 125, 120, 121, 122, 113, 131, 129, 124, 110, 126]) lc_RX11 (by decide +kernel)
theorem con_72 (l : Launch) {as : List Value} {M : tm_M} {r : tm_R} (h : F_72 as M = some r) : tm_MA tm_sh l (tm_mt 72) as M r := tm_sound (t := tm_mt 72) tm_Sok_ok tm_CL_ok gg_72 (gm_72 l) (fun _ _ => ⟨rfl, rfl⟩) ck_72 (by decide +kernel) (fun h => by cases h) (fun _ _ _ _ => tm_nos_all (by decide +kernel)) h
def cd_73 : List tm_E := [(0, .aload_n 0, 1, 0, 0, 0), (1, .invokevirtual 292, 3, 54, 0, 44), (4, .aload_n 0, 1, 0, 0, 0), (5, .iconst 1, 1, 0, 0, 0), (6, .aload_n 0, 1, 0, 0, 0), (7, .getfield 295, 3, 11, 21, 0), (10, .isub, 1, 0, 0, 0), (11, .putfield 298, 3, 11, 22, 0), (14, .aload_n 0, 1, 0, 0, 0), (15, .getfield 24, 3, 11, 12, 2), (18, .aload_n 0, 1, 0, 0, 0), (19, .getfield 298, 3, 11, 22, 0), (22, .iconst 0, 1, 0, 0, 0), (23, .iastore, 1, 0, 0, 0), (24, .aload_n 0, 1, 0, 0, 0), (25, .invokevirtual 280, 3, 60, 0, 44), (28, .aload_n 0, 1, 0, 0, 0), (29, .invokevirtual 276, 3, 61, 0, 45), (32, .ifCond .eq 17, 3, 49, 0, 0), (35, .aload_n 0, 1, 0, 0, 0), (36, .getfield 248, 3, 11, 8, 0), (39, .ifCond .eq 10, 3, 49, 0, 0), (42, .aload_n 0, 1, 0, 0, 0), (43, .invokevirtual 301, 3, 72, 0, 44), (46, .goto (-18), 3, 28, 0, 0), (49, .aload_n 0, 1, 0, 0, 0), (50, .invokevirtual 276, 3, 61, 0, 45), (53, .ifCond .ne 5, 3, 58, 0, 0), (56, .iconst (-1), 1, 0, 0, 0), (57, .ireturn, 1, 0, 0, 0), (58, .aload_n 0, 1, 0, 0, 0), (59, .aload_n 0, 1, 0, 0, 0), (60, .getfield 298, 3, 11, 22, 0), (63, .putfield 295, 3, 11, 21, 0), (66, .aload_n 0, 1, 0, 0, 0), (67, .iconst 0, 1, 0, 0, 0), (68, .putfield 304, 3, 11, 72, 3), (71, .aload_n 0, 1, 0, 0, 0), (72, .iconst 0, 1, 0, 0, 0), (73, .putfield 308, 3, 11, 32, 3), (76, .aload_n 0, 1, 0, 0, 0), (77, .iconst 0, 1, 0, 0, 0), (78, .putfield 311, 3, 11, 33, 3), (81, .aload_n 0, 1, 0, 0, 0), (82, .getfield 24, 3, 11, 12, 2), (85, .aload_n 0, 1, 0, 0, 0), (86, .getfield 295, 3, 11, 21, 0), (89, .iaload, 1, 0, 0, 0), (90, .ireturn, 1, 0, 0, 0)]
def cu_73 : List (Nat × List Nat) := [(4, [0]), (28, [0]), (32, [0]), (46, [0]), (49, [0]), (53, [0])]
noncomputable def G_73 : tm_G := fun id as M => if id = 54 then F_54 as M else if id = 60 then F_60 as M else if id = 61 then F_61 as M else if id = 72 then F_72 as M else none
noncomputable def F_73 : List Value → tm_M → Option tm_R := tm_m tm_sh none G_73 false cd_73 cu_73 50 1
theorem gg_73 : tm_Gg G_73 := by
  intro id as M r h
  unfold G_73 at h
  rcases tm_ite_e h with ⟨_, h⟩ | ⟨_, h⟩
  · exact gr_54 h
  rcases tm_ite_e h with ⟨_, h⟩ | ⟨_, h⟩
  · exact gr_60 h
  rcases tm_ite_e h with ⟨_, h⟩ | ⟨_, h⟩
  · exact gr_61 h
  rcases tm_ite_e h with ⟨_, h⟩ | ⟨_, h⟩
  · exact gr_72 h
  cases h
theorem gm_73 (l : Launch) : ∀ id as M r, G_73 id as M = some r → tm_MA tm_sh l (tm_mt id) as M r := by
  intro id as M r h
  unfold G_73 at h
  rcases tm_ite_e h with ⟨rfl, h⟩ | ⟨_, h⟩
  · exact con_54 l h
  rcases tm_ite_e h with ⟨rfl, h⟩ | ⟨_, h⟩
  · exact con_60 l h
  rcases tm_ite_e h with ⟨rfl, h⟩ | ⟨_, h⟩
  · exact con_61 l h
  rcases tm_ite_e h with ⟨rfl, h⟩ | ⟨_, h⟩
  · exact con_72 l h
  cases h
theorem gr_73 {as : List Value} {M : tm_M} {r : tm_R} (h : F_73 as M = some r) : tm_gr M r.2 := tm_m_gr gg_73 h
theorem ck_73 : tm_cdk (tm_mt 73).1.cls false tm_mt (tm_mt 73) false cd_73 := tm_cdk_of (LK := lk_RX11) (ix := [132, 133, 134, 110, 126, 113, 112, 108, 135, 112, 126, 136, 137, 138, 139, 110, 133]) lc_RX11 (by decide +kernel)
theorem con_73 (l : Launch) {as : List Value} {M : tm_M} {r : tm_R} (h : F_73 as M = some r) : tm_MA tm_sh l (tm_mt 73) as M r := tm_sound (t := tm_mt 73) tm_Sok_ok tm_CL_ok gg_73 (gm_73 l) (fun _ _ => ⟨rfl, rfl⟩) ck_73 (by decide +kernel) (fun h => by cases h) (fun _ _ _ _ => tm_nos_all (by decide +kernel)) h
def cd_74 : List tm_E := [(0, .aload_n 1, 1, 0, 0, 0), (1, .getfield 51, 3, 5, 7, 0), (4, .bipush 21, 2, 0, 0, 0), (6, .if_icmp .eq 18, 3, 24, 0, 0), (9, .aload_n 1, 1, 0, 0, 0), (10, .getfield 51, 3, 5, 7, 0), (13, .bipush 22, 2, 0, 0, 0), (15, .if_icmp .eq 9, 3, 24, 0, 0), (18, .aload_n 1, 1, 0, 0, 0), (19, .iconst 2, 1, 0, 0, 0), (20, .invokevirtual 58, 3, 30, 1, 21), (23, .ireturn, 1, 0, 0, 0), (24, .aload_n 0, 1, 0, 0, 0), (25, .getfield 21, 3, 7, 3, 2), (28, .aload_n 0, 1, 0, 0, 0), (29, .getfield 28, 3, 7, 6, 0), (32, .aload_n 1, 1, 0, 0, 0), (33, .getfield 51, 3, 5, 7, 0), (36, .bipush 21, 2, 0, 0, 0), (38, .if_icmp .ne 7, 3, 45, 0, 0), (41, .iconst 0, 1, 0, 0, 0), (42, .goto 4, 3, 46, 0, 0), (45, .iconst 1, 1, 0, 0, 0), (46, .iastore, 1, 0, 0, 0), (47, .aload_n 1, 1, 0, 0, 0), (48, .invokevirtual 48, 3, 28, 0, 20), (51, .iconst 1, 1, 0, 0, 0), (52, .ireturn, 1, 0, 0, 0)]
def cu_74 : List (Nat × List Nat) := [(23, []), (24, [0, 1]), (46, [1]), (51, [])]
noncomputable def G_74 : tm_G := fun id as M => if id = 30 then F_30 as M else if id = 28 then F_28 as M else none
noncomputable def F_74 : List Value → tm_M → Option tm_R := tm_m tm_sh none G_74 true cd_74 cu_74 29 2
theorem gg_74 : tm_Gg G_74 := by
  intro id as M r h
  unfold G_74 at h
  rcases tm_ite_e h with ⟨_, h⟩ | ⟨_, h⟩
  · exact gr_30 h
  rcases tm_ite_e h with ⟨_, h⟩ | ⟨_, h⟩
  · exact gr_28 h
  cases h
theorem gm_74 (l : Launch) : ∀ id as M r, G_74 id as M = some r → tm_MA tm_sh l (tm_mt id) as M r := by
  intro id as M r h
  unfold G_74 at h
  rcases tm_ite_e h with ⟨rfl, h⟩ | ⟨_, h⟩
  · exact con_30 l h
  rcases tm_ite_e h with ⟨rfl, h⟩ | ⟨_, h⟩
  · exact con_28 l h
  cases h
theorem gr_74 {as : List Value} {M : tm_M} {r : tm_R} (h : F_74 as M = some r) : tm_gr M r.2 := tm_m_gr gg_74 h
theorem ck_74 : tm_cdk (tm_mt 74).1.cls false tm_mt (tm_mt 74) true cd_74 := tm_cdk_of (LK := lk_RX7) (ix := [8, 8, 9, 10, 11, 8, 12]) lc_RX7 (by decide +kernel)
theorem con_74 (l : Launch) {as : List Value} {M : tm_M} {r : tm_R} (h : F_74 as M = some r) : tm_MA tm_sh l (tm_mt 74) as M r := tm_sound (t := tm_mt 74) tm_Sok_ok tm_CL_ok gg_74 (gm_74 l) (fun _ _ => ⟨rfl, rfl⟩) ck_74 (by decide +kernel) (fun h => by cases h) (fun _ _ _ _ => tm_nos_all (by decide +kernel)) h
def cd_75 : List tm_E := [(0, .aload_n 1, 1, 0, 0, 0), (1, .getfield 51, 3, 5, 7, 0), (4, .bipush 30, 2, 0, 0, 0), (6, .if_icmp .eq 9, 3, 15, 0, 0), (9, .aload_n 1, 1, 0, 0, 0), (10, .iconst 2, 1, 0, 0, 0), (11, .invokevirtual 58, 3, 30, 1, 21), (14, .ireturn, 1, 0, 0, 0), (15, .aload_n 2, 1, 0, 0, 0), (16, .aload_n 1, 1, 0, 0, 0), (17, .getfield 71, 3, 5, 9, 1), (20, .invokevirtual 75, 3, 32, 1, 1), (23, .istore_n 3, 1, 0, 0, 0), (24, .iload_n 3, 1, 0, 0, 0), (25, .iconst (-1), 1, 0, 0, 0), (26, .if_icmp .ne 9, 3, 35, 0, 0), (29, .aload_n 1, 1, 0, 0, 0), (30, .iconst 5, 1, 0, 0, 0), (31, .invokevirtual 58, 3, 30, 1, 21), (34, .ireturn, 1, 0, 0, 0), (35, .aload_n 0, 1, 0, 0, 0), (36, .getfield 21, 3, 7, 3, 2), (39, .aload_n 0, 1, 0, 0, 0), (40, .getfield 28, 3, 7, 6, 0), (43, .iload_n 3, 1, 0, 0, 0), (44, .iastore, 1, 0, 0, 0), (45, .aload_n 1, 1, 0, 0, 0), (46, .invokevirtual 48, 3, 28, 0, 20), (49, .aload_n 1, 1, 0, 0, 0), (50, .getfield 51, 3, 5, 7, 0), (53, .bipush 19, 2, 0, 0, 0), (55, .if_icmp .ne 17, 3, 72, 0, 0), (58, .aload_n 0, 1, 0, 0, 0), (59, .getfield 24, 3, 7, 4, 2), (62, .aload_n 0, 1, 0, 0, 0), (63, .getfield 28, 3, 7, 6, 0), (66, .iconst 1, 1, 0, 0, 0), (67, .bastore, 1, 0, 0, 0), (68, .aload_n 1, 1, 0, 0, 0), (69, .invokevirtual 48, 3, 28, 0, 20), (72, .iconst 1, 1, 0, 0, 0), (73, .ireturn, 1, 0, 0, 0)]
def cu_75 : List (Nat × List Nat) := [(14, []), (23, [0, 1]), (34, []), (49, [0, 1]), (72, [])]
noncomputable def G_75 : tm_G := fun id as M => if id = 30 then F_30 as M else if id = 32 then F_32 as M else if id = 28 then F_28 as M else none
noncomputable def F_75 : List Value → tm_M → Option tm_R := tm_m tm_sh none G_75 true cd_75 cu_75 43 4
theorem gg_75 : tm_Gg G_75 := by
  intro id as M r h
  unfold G_75 at h
  rcases tm_ite_e h with ⟨_, h⟩ | ⟨_, h⟩
  · exact gr_30 h
  rcases tm_ite_e h with ⟨_, h⟩ | ⟨_, h⟩
  · exact gr_32 h
  rcases tm_ite_e h with ⟨_, h⟩ | ⟨_, h⟩
  · exact gr_28 h
  cases h
theorem gm_75 (l : Launch) : ∀ id as M r, G_75 id as M = some r → tm_MA tm_sh l (tm_mt id) as M r := by
  intro id as M r h
  unfold G_75 at h
  rcases tm_ite_e h with ⟨rfl, h⟩ | ⟨_, h⟩
  · exact con_30 l h
  rcases tm_ite_e h with ⟨rfl, h⟩ | ⟨_, h⟩
  · exact con_32 l h
  rcases tm_ite_e h with ⟨rfl, h⟩ | ⟨_, h⟩
  · exact con_28 l h
  cases h
theorem gr_75 {as : List Value} {M : tm_M} {r : tm_R} (h : F_75 as M = some r) : tm_gr M r.2 := tm_m_gr gg_75 h
theorem ck_75 : tm_cdk (tm_mt 75).1.cls false tm_mt (tm_mt 75) true cd_75 := tm_cdk_of (LK := lk_RX7) (ix := [8, 9, 13, 14, 9, 10, 11, 12, 8, 15, 11, 12]) lc_RX7 (by decide +kernel)
theorem con_75 (l : Launch) {as : List Value} {M : tm_M} {r : tm_R} (h : F_75 as M = some r) : tm_MA tm_sh l (tm_mt 75) as M r := tm_sound (t := tm_mt 75) tm_Sok_ok tm_CL_ok gg_75 (gm_75 l) (fun _ _ => ⟨rfl, rfl⟩) ck_75 (by decide +kernel) (fun h => by cases h) (fun _ _ _ _ => tm_nos_all (by decide +kernel)) h
def cd_76 : List tm_E := [(0, .aload_n 0, 1, 0, 0, 0), (1, .getfield 18, 3, 7, 2, 2), (4, .aload_n 0, 1, 0, 0, 0), (5, .getfield 28, 3, 7, 6, 0), (8, .aload_n 1, 1, 0, 0, 0), (9, .getfield 51, 3, 5, 7, 0), (12, .iastore, 1, 0, 0, 0), (13, .aload_n 0, 1, 0, 0, 0), (14, .getfield 24, 3, 7, 4, 2), (17, .aload_n 0, 1, 0, 0, 0), (18, .getfield 28, 3, 7, 6, 0), (21, .iconst 0, 1, 0, 0, 0), (22, .bastore, 1, 0, 0, 0), (23, .aload_n 1, 1, 0, 0, 0), (24, .getfield 51, 3, 5, 7, 0), (27, .tableswitch 54 16 20 #[33, 33, 43, 54, 33], 33, 0, 0, 0), (60, .aload_n 1, 1, 0, 0, 0), (61, .invokevirtual 48, 3, 28, 0, 20), (64, .aload_n 0, 1, 0, 0, 0), (65, .aload_n 1, 1, 0, 0, 0), (66, .invokevirtual 64, 3, 74, 1, 29), (69, .ireturn, 1, 0, 0, 0), (70, .aload_n 1, 1, 0, 0, 0), (71, .invokevirtual 48, 3, 28, 0, 20), (74, .aload_n 0, 1, 0, 0, 0), (75, .aload_n 1, 1, 0, 0, 0), (76, .aload_n 2, 1, 0, 0, 0), (77, .invokevirtual 68, 3, 75, 2, 29), (80, .ireturn, 1, 0, 0, 0), (81, .aload_n 1, 1, 0, 0, 0), (82, .iconst 2, 1, 0, 0, 0), (83, .invokevirtual 58, 3, 30, 1, 21), (86, .ireturn, 1, 0, 0, 0)]
def cu_76 : List (Nat × List Nat) := [(64, [0, 1]), (69, []), (74, [0, 1, 2]), (80, []), (86, [])]
noncomputable def G_76 : tm_G := fun id as M => if id = 28 then F_28 as M else if id = 74 then F_74 as M else if id = 75 then F_75 as M else if id = 30 then F_30 as M else none
noncomputable def F_76 : List Value → tm_M → Option tm_R := tm_m tm_sh none G_76 true cd_76 cu_76 34 3
theorem gg_76 : tm_Gg G_76 := by
  intro id as M r h
  unfold G_76 at h
  rcases tm_ite_e h with ⟨_, h⟩ | ⟨_, h⟩
  · exact gr_28 h
  rcases tm_ite_e h with ⟨_, h⟩ | ⟨_, h⟩
  · exact gr_74 h
  rcases tm_ite_e h with ⟨_, h⟩ | ⟨_, h⟩
  · exact gr_75 h
  rcases tm_ite_e h with ⟨_, h⟩ | ⟨_, h⟩
  · exact gr_30 h
  cases h
theorem gm_76 (l : Launch) : ∀ id as M r, G_76 id as M = some r → tm_MA tm_sh l (tm_mt id) as M r := by
  intro id as M r h
  unfold G_76 at h
  rcases tm_ite_e h with ⟨rfl, h⟩ | ⟨_, h⟩
  · exact con_28 l h
  rcases tm_ite_e h with ⟨rfl, h⟩ | ⟨_, h⟩
  · exact con_74 l h
  rcases tm_ite_e h with ⟨rfl, h⟩ | ⟨_, h⟩
  · exact con_75 l h
  rcases tm_ite_e h with ⟨rfl, h⟩ | ⟨_, h⟩
  · exact con_30 l h
  cases h
theorem gr_76 {as : List Value} {M : tm_M} {r : tm_R} (h : F_76 as M = some r) : tm_gr M r.2 := tm_m_gr gg_76 h
theorem ck_76 : tm_cdk (tm_mt 76).1.cls false tm_mt (tm_mt 76) true cd_76 := tm_cdk_of (LK := lk_RX7) (ix := [16, 11, 8, 15, 11, 8, 12, 17, 12, 18, 9]) lc_RX7 (by decide +kernel)
theorem con_76 (l : Launch) {as : List Value} {M : tm_M} {r : tm_R} (h : F_76 as M = some r) : tm_MA tm_sh l (tm_mt 76) as M r := tm_sound (t := tm_mt 76) tm_Sok_ok tm_CL_ok gg_76 (gm_76 l) (fun _ _ => ⟨rfl, rfl⟩) ck_76 (by decide +kernel) (fun h => by cases h) (fun _ _ _ _ => tm_nos_all (by decide +kernel)) h
def cd_77 : List tm_E := [(0, .aload_n 0, 1, 0, 0, 0), (1, .getfield 28, 3, 7, 6, 0), (4, .ifCond .le 17, 3, 21, 0, 0), (7, .aload_n 0, 1, 0, 0, 0), (8, .getfield 11, 3, 7, 0, 2), (11, .aload_n 0, 1, 0, 0, 0), (12, .getfield 28, 3, 7, 6, 0), (15, .iconst 1, 1, 0, 0, 0), (16, .isub, 1, 0, 0, 0), (17, .iaload, 1, 0, 0, 0), (18, .goto 4, 3, 22, 0, 0), (21, .iconst 0, 1, 0, 0, 0), (22, .istore_n 3, 1, 0, 0, 0), (23, .aload_n 1, 1, 0, 0, 0), (24, .bipush 15, 2, 0, 0, 0), (26, .invokevirtual 34, 3, 31, 1, 21), (29, .ifCond .eq 17, 3, 46, 0, 0), (32, .aload_n 1, 1, 0, 0, 0), (33, .iload_n 3, 1, 0, 0, 0), (34, .aload_n 0, 1, 0, 0, 0), (35, .getfield 45, 3, 7, 5, 0), (38, .iconst 1, 1, 0, 0, 0), (39, .isub, 1, 0, 0, 0), (40, .invokevirtual 38, 3, 36, 2, 21), (43, .ifCond .ne 5, 3, 48, 0, 0), (46, .iconst 0, 1, 0, 0, 0), (47, .ireturn, 1, 0, 0, 0), (48, .aload_n 0, 1, 0, 0, 0), (49, .getfield 11, 3, 7, 0, 2), (52, .aload_n 0, 1, 0, 0, 0), (53, .getfield 28, 3, 7, 6, 0), (56, .aload_n 1, 1, 0, 0, 0), (57, .getfield 42, 3, 5, 8, 0), (60, .iastore, 1, 0, 0, 0), (61, .aload_n 1, 1, 0, 0, 0), (62, .invokevirtual 48, 3, 28, 0, 20), (65, .aload_n 1, 1, 0, 0, 0), (66, .iconst 0, 1, 0, 0, 0), (67, .iconst 5, 1, 0, 0, 0), (68, .invokevirtual 38, 3, 36, 2, 21), (71, .ifCond .ne 5, 3, 76, 0, 0), (74, .iconst 0, 1, 0, 0, 0), (75, .ireturn, 1, 0, 0, 0), (76, .aload_n 0, 1, 0, 0, 0), (77, .getfield 15, 3, 7, 1, 2), (80, .aload_n 0, 1, 0, 0, 0), (81, .getfield 28, 3, 7, 6, 0), (84, .aload_n 1, 1, 0, 0, 0), (85, .getfield 42, 3, 5, 8, 0), (88, .iastore, 1, 0, 0, 0), (89, .aload_n 1, 1, 0, 0, 0), (90, .invokevirtual 48, 3, 28, 0, 20), (93, .aload_n 0, 1, 0, 0, 0), (94, .aload_n 1, 1, 0, 0, 0), (95, .aload_n 2, 1, 0, 0, 0), (96, .invokevirtual 61, 3, 76, 2, 29), (99, .ifCond .eq 16, 3, 115, 0, 0), (102, .aload_n 1, 1, 0, 0, 0), (103, .bipush 34, 2, 0, 0, 0), (105, .invokevirtual 34, 3, 31, 1, 21), (108, .ifCond .eq 7, 3, 115, 0, 0), (111, .iconst 1, 1, 0, 0, 0), (112, .goto 4, 3, 116, 0, 0), (115, .iconst 0, 1, 0, 0, 0), (116, .ireturn, 1, 0, 0, 0)]
def cu_77 : List (Nat × List Nat) := [(22, [0, 1, 2]), (29, [0, 1, 2, 3]), (43, [0, 1, 2]), (46, []), (65, [0, 1, 2]), (71, [0, 1, 2]), (93, [0, 1, 2]), (99, [1]), (108, []), (115, []), (116, [])]
noncomputable def G_77 : tm_G := fun id as M => if id = 31 then F_31 as M else if id = 36 then F_36 as M else if id = 28 then F_28 as M else if id = 76 then F_76 as M else none
noncomputable def F_77 : List Value → tm_M → Option tm_R := tm_m tm_sh none G_77 true cd_77 cu_77 66 4
theorem gg_77 : tm_Gg G_77 := by
  intro id as M r h
  unfold G_77 at h
  rcases tm_ite_e h with ⟨_, h⟩ | ⟨_, h⟩
  · exact gr_31 h
  rcases tm_ite_e h with ⟨_, h⟩ | ⟨_, h⟩
  · exact gr_36 h
  rcases tm_ite_e h with ⟨_, h⟩ | ⟨_, h⟩
  · exact gr_28 h
  rcases tm_ite_e h with ⟨_, h⟩ | ⟨_, h⟩
  · exact gr_76 h
  cases h
theorem gm_77 (l : Launch) : ∀ id as M r, G_77 id as M = some r → tm_MA tm_sh l (tm_mt id) as M r := by
  intro id as M r h
  unfold G_77 at h
  rcases tm_ite_e h with ⟨rfl, h⟩ | ⟨_, h⟩
  · exact con_31 l h
  rcases tm_ite_e h with ⟨rfl, h⟩ | ⟨_, h⟩
  · exact con_36 l h
  rcases tm_ite_e h with ⟨rfl, h⟩ | ⟨_, h⟩
  · exact con_28 l h
  rcases tm_ite_e h with ⟨rfl, h⟩ | ⟨_, h⟩
  · exact con_76 l h
  cases h
theorem gr_77 {as : List Value} {M : tm_M} {r : tm_R} (h : F_77 as M = some r) : tm_gr M r.2 := tm_m_gr gg_77 h
theorem ck_77 : tm_cdk (tm_mt 77).1.cls false tm_mt (tm_mt 77) true cd_77 := tm_cdk_of (LK := lk_RX7) (ix := [11, 19, 11, 20, 21, 22, 19, 11, 23, 12, 22, 24, 11, 23, 12, 25, 20]) lc_RX7 (by decide +kernel)
theorem con_77 (l : Launch) {as : List Value} {M : tm_M} {r : tm_R} (h : F_77 as M = some r) : tm_MA tm_sh l (tm_mt 77) as M r := tm_sound (t := tm_mt 77) tm_Sok_ok tm_CL_ok gg_77 (gm_77 l) (fun _ _ => ⟨rfl, rfl⟩) ck_77 (by decide +kernel) (fun h => by cases h) (fun _ _ _ _ => tm_nos_all (by decide +kernel)) h
def cd_78 : List tm_E := [(0, .aload_n 0, 1, 0, 0, 0), (1, .iconst 0, 1, 0, 0, 0), (2, .putfield 28, 3, 7, 6, 0), (5, .aload_n 1, 1, 0, 0, 0), (6, .bipush 14, 2, 0, 0, 0), (8, .invokevirtual 34, 3, 31, 1, 21), (11, .ifCond .eq 14, 3, 25, 0, 0), (14, .aload_n 1, 1, 0, 0, 0), (15, .iconst 1, 1, 0, 0, 0), (16, .sipush 200, 3, 0, 0, 0), (19, .invokevirtual 38, 3, 36, 2, 21), (22, .ifCond .ne 5, 3, 27, 0, 0), (25, .iconst 0, 1, 0, 0, 0), (26, .ireturn, 1, 0, 0, 0), (27, .aload_n 0, 1, 0, 0, 0), (28, .aload_n 1, 1, 0, 0, 0), (29, .getfield 42, 3, 5, 8, 0), (32, .putfield 45, 3, 7, 5, 0), (35, .aload_n 1, 1, 0, 0, 0), (36, .invokevirtual 48, 3, 28, 0, 20), (39, .aload_n 1, 1, 0, 0, 0), (40, .bipush 34, 2, 0, 0, 0), (42, .invokevirtual 34, 3, 31, 1, 21), (45, .ifCond .ne 5, 3, 50, 0, 0), (48, .iconst 0, 1, 0, 0, 0), (49, .ireturn, 1, 0, 0, 0), (50, .aload_n 0, 1, 0, 0, 0), (51, .getfield 28, 3, 7, 6, 0), (54, .bipush 60, 2, 0, 0, 0), (56, .if_icmp .ge 36, 3, 92, 0, 0), (59, .aload_n 1, 1, 0, 0, 0), (60, .getfield 51, 3, 5, 7, 0), (63, .bipush 15, 2, 0, 0, 0), (65, .if_icmp .ne 27, 3, 92, 0, 0), (68, .aload_n 0, 1, 0, 0, 0), (69, .aload_n 1, 1, 0, 0, 0), (70, .aload_n 2, 1, 0, 0, 0), (71, .invokevirtual 54, 3, 77, 2, 29), (74, .ifCond .ne 5, 3, 79, 0, 0), (77, .iconst 0, 1, 0, 0, 0), (78, .ireturn, 1, 0, 0, 0), (79, .aload_n 0, 1, 0, 0, 0), (80, .dup, 1, 0, 0, 0), (81, .getfield 28, 3, 7, 6, 0), (84, .iconst 1, 1, 0, 0, 0), (85, .iadd, 1, 0, 0, 0), (86, .putfield 28, 3, 7, 6, 0), (89, .goto (-39), 3, 50, 0, 0), (92, .aload_n 1, 1, 0, 0, 0), (93, .getfield 51, 3, 5, 7, 0), (96, .bipush 35, 2, 0, 0, 0), (98, .if_icmp .eq 11, 3, 109, 0, 0), (101, .aload_n 1, 1, 0, 0, 0), (102, .iconst 2, 1, 0, 0, 0), (103, .invokevirtual 58, 3, 30, 1, 21), (106, .ifCond .eq 7, 3, 113, 0, 0), (109, .iconst 1, 1, 0, 0, 0), (110, .goto 4, 3, 114, 0, 0), (113, .iconst 0, 1, 0, 0, 0), (114, .ireturn, 1, 0, 0, 0)]
def cu_78 : List (Nat × List Nat) := [(11, [0, 1, 2]), (22, [0, 1, 2]), (25, []), (39, [0, 1, 2]), (45, [0, 1, 2]), (50, [0, 1, 2]), (74, [0, 1, 2]), (92, [1]), (106, []), (109, []), (114, [])]
noncomputable def G_78 : tm_G := fun id as M => if id = 31 then F_31 as M else if id = 36 then F_36 as M else if id = 28 then F_28 as M else if id = 77 then F_77 as M else if id = 30 then F_30 as M else none
noncomputable def F_78 : List Value → tm_M → Option tm_R := tm_m tm_sh none G_78 true cd_78 cu_78 61 3
theorem gg_78 : tm_Gg G_78 := by
  intro id as M r h
  unfold G_78 at h
  rcases tm_ite_e h with ⟨_, h⟩ | ⟨_, h⟩
  · exact gr_31 h
  rcases tm_ite_e h with ⟨_, h⟩ | ⟨_, h⟩
  · exact gr_36 h
  rcases tm_ite_e h with ⟨_, h⟩ | ⟨_, h⟩
  · exact gr_28 h
  rcases tm_ite_e h with ⟨_, h⟩ | ⟨_, h⟩
  · exact gr_77 h
  rcases tm_ite_e h with ⟨_, h⟩ | ⟨_, h⟩
  · exact gr_30 h
  cases h
theorem gm_78 (l : Launch) : ∀ id as M r, G_78 id as M = some r → tm_MA tm_sh l (tm_mt id) as M r := by
  intro id as M r h
  unfold G_78 at h
  rcases tm_ite_e h with ⟨rfl, h⟩ | ⟨_, h⟩
  · exact con_31 l h
  rcases tm_ite_e h with ⟨rfl, h⟩ | ⟨_, h⟩
  · exact con_36 l h
  rcases tm_ite_e h with ⟨rfl, h⟩ | ⟨_, h⟩
  · exact con_28 l h
  rcases tm_ite_e h with ⟨rfl, h⟩ | ⟨_, h⟩
  · exact con_77 l h
  rcases tm_ite_e h with ⟨rfl, h⟩ | ⟨_, h⟩
  · exact con_30 l h
  cases h
theorem gr_78 {as : List Value} {M : tm_M} {r : tm_R} (h : F_78 as M = some r) : tm_gr M r.2 := tm_m_gr gg_78 h
theorem ck_78 : tm_cdk (tm_mt 78).1.cls false tm_mt (tm_mt 78) true cd_78 := tm_cdk_of (LK := lk_RX7) (ix := [26, 20, 22, 23, 27, 12, 20, 11, 8, 28, 11, 26, 8, 9]) lc_RX7 (by decide +kernel)
theorem con_78 (l : Launch) {as : List Value} {M : tm_M} {r : tm_R} (h : F_78 as M = some r) : tm_MA tm_sh l (tm_mt 78) as M r := tm_sound (t := tm_mt 78) tm_Sok_ok tm_CL_ok gg_78 (gm_78 l) (fun _ _ => ⟨rfl, rfl⟩) ck_78 (by decide +kernel) (fun h => by cases h) (fun _ _ _ _ => tm_nos_all (by decide +kernel)) h
def cd_79 : List tm_E := [(0, .aload_n 0, 1, 0, 0, 0), (1, .getfield 16, 3, 10, 1, 2), (4, .aload_n 0, 1, 0, 0, 0), (5, .getfield 9, 3, 10, 0, 2), (8, .aload_n 0, 1, 0, 0, 0), (9, .invokevirtual 82, 3, 19, 0, 41), (12, .invokevirtual 86, 3, 29, 2, 20), (15, .aload_n 0, 1, 0, 0, 0), (16, .getfield 65, 3, 10, 9, 2), (19, .aload_n 0, 1, 0, 0, 0), (20, .getfield 16, 3, 10, 1, 2), (23, .aload_n 0, 1, 0, 0, 0), (24, .getfield 51, 3, 10, 6, 2), (27, .invokevirtual 111, 3, 78, 2, 29), (30, .ifCond .ne 5, 3, 35, 0, 0), (33, .iconst (-1), 1, 0, 0, 0), (34, .ireturn, 1, 0, 0, 0), (35, .aload_n 0, 1, 0, 0, 0), (36, .getfield 65, 3, 10, 9, 2), (39, .astore_n 1, 1, 0, 0, 0), (40, .aload_n 0, 1, 0, 0, 0), (41, .aload_n 0, 1, 0, 0, 0), (42, .getfield 61, 3, 10, 8, 2), (45, .putfield 65, 3, 10, 9, 2), (48, .aload_n 0, 1, 0, 0, 0), (49, .aload_n 1, 1, 0, 0, 0), (50, .putfield 61, 3, 10, 8, 2), (53, .aload_n 0, 1, 0, 0, 0), (54, .iconst 1, 1, 0, 0, 0), (55, .putfield 97, 3, 10, 10, 3), (58, .aload_n 0, 1, 0, 0, 0), (59, .getfield 23, 3, 10, 2, 2), (62, .getfield 101, 3, 9, 0, 2), (65, .invokevirtual 105, 3, 52, 0, 16), (68, .aload_n 0, 1, 0, 0, 0), (69, .getfield 61, 3, 10, 8, 2), (72, .getfield 114, 3, 7, 6, 0), (75, .ireturn, 1, 0, 0, 0)]
def cu_79 : List (Nat × List Nat) := [(12, [0]), (15, [0]), (30, [0]), (68, [0])]
noncomputable def G_79 : tm_G := fun id as M => if id = 19 then F_19 as M else if id = 29 then F_29 as M else if id = 78 then F_78 as M else if id = 52 then F_52 as M else none
noncomputable def F_79 : List Value → tm_M → Option tm_R := tm_m tm_sh none G_79 false cd_79 cu_79 39 2
theorem gg_79 : tm_Gg G_79 := by
  intro id as M r h
  unfold G_79 at h
  rcases tm_ite_e h with ⟨_, h⟩ | ⟨_, h⟩
  · exact gr_19 h
  rcases tm_ite_e h with ⟨_, h⟩ | ⟨_, h⟩
  · exact gr_29 h
  rcases tm_ite_e h with ⟨_, h⟩ | ⟨_, h⟩
  · exact gr_78 h
  rcases tm_ite_e h with ⟨_, h⟩ | ⟨_, h⟩
  · exact gr_52 h
  cases h
theorem gm_79 (l : Launch) : ∀ id as M r, G_79 id as M = some r → tm_MA tm_sh l (tm_mt id) as M r := by
  intro id as M r h
  unfold G_79 at h
  rcases tm_ite_e h with ⟨rfl, h⟩ | ⟨_, h⟩
  · exact con_19 l h
  rcases tm_ite_e h with ⟨rfl, h⟩ | ⟨_, h⟩
  · exact con_29 l h
  rcases tm_ite_e h with ⟨rfl, h⟩ | ⟨_, h⟩
  · exact con_78 l h
  rcases tm_ite_e h with ⟨rfl, h⟩ | ⟨_, h⟩
  · exact con_52 l h
  cases h
theorem gr_79 {as : List Value} {M : tm_M} {r : tm_R} (h : F_79 as M = some r) : tm_gr M r.2 := tm_m_gr gg_79 h
theorem ck_79 : tm_cdk (tm_mt 79).1.cls false tm_mt (tm_mt 79) false cd_79 := tm_cdk_of (LK := lk_RX10) (ix := [32, 28, 33, 34, 45, 32, 37, 46, 45, 47, 25, 24, 40, 41, 42, 43, 47, 48]) lc_RX10 (by decide +kernel)
theorem con_79 (l : Launch) {as : List Value} {M : tm_M} {r : tm_R} (h : F_79 as M = some r) : tm_MA tm_sh l (tm_mt 79) as M r := tm_sound (t := tm_mt 79) tm_Sok_ok tm_CL_ok gg_79 (gm_79 l) (fun _ _ => ⟨rfl, rfl⟩) ck_79 (by decide +kernel) (fun h => by cases h) (fun _ _ _ _ => tm_nos_all (by decide +kernel)) h
def cd_80 : List tm_E := [(0, .aload_n 0, 1, 0, 0, 0), (1, .ldc2_w 222, 3, 24948, 0, 0), (4, .invokevirtual 286, 3, 62, 1, 45), (7, .ifCond .eq 17, 3, 24, 0, 0), (10, .aload_n 0, 1, 0, 0, 0), (11, .getfield 53, 3, 11, 23, 2), (14, .aload_n 0, 1, 0, 0, 0), (15, .getfield 375, 3, 11, 31, 0), (18, .iaload, 1, 0, 0, 0), (19, .bipush 60, 2, 0, 0, 0), (21, .if_icmp .ne 7, 3, 28, 0, 0), (24, .aload_n 0, 1, 0, 0, 0), (25, .invokevirtual 283, 3, 64, 0, 44), (28, .aload_n 0, 1, 0, 0, 0), (29, .invokevirtual 276, 3, 61, 0, 45), (32, .ifCond .ne 4, 3, 36, 0, 0), (35, .return_, 1, 0, 0, 0), (36, .aload_n 0, 1, 0, 0, 0), (37, .invokevirtual 280, 3, 60, 0, 44), (40, .bipush 60, 2, 0, 0, 0), (42, .aload_n 0, 1, 0, 0, 0), (43, .getfield 375, 3, 11, 31, 0), (46, .imul, 1, 0, 0, 0), (47, .aload_n 0, 1, 0, 0, 0), (48, .getfield 53, 3, 11, 23, 2), (51, .aload_n 0, 1, 0, 0, 0), (52, .getfield 375, 3, 11, 31, 0), (55, .iaload, 1, 0, 0, 0), (56, .iadd, 1, 0, 0, 0), (57, .istore_n 1, 1, 0, 0, 0), (58, .aload_n 0, 1, 0, 0, 0), (59, .getfield 59, 3, 11, 25, 2), (62, .iload_n 1, 1, 0, 0, 0), (63, .aload_n 0, 1, 0, 0, 0), (64, .aload_n 0, 1, 0, 0, 0), (65, .getfield 53, 3, 11, 23, 2), (68, .aload_n 0, 1, 0, 0, 0), (69, .getfield 375, 3, 11, 31, 0), (72, .iaload, 1, 0, 0, 0), (73, .ifCond .ne 7, 3, 80, 0, 0), (76, .iconst 0, 1, 0, 0, 0), (77, .goto 11, 3, 88, 0, 0), (80, .aload_n 0, 1, 0, 0, 0), (81, .getfield 59, 3, 11, 25, 2), (84, .iload_n 1, 1, 0, 0, 0), (85, .iconst 1, 1, 0, 0, 0), (86, .isub, 1, 0, 0, 0), (87, .iaload, 1, 0, 0, 0), (88, .aload_n 0, 1, 0, 0, 0), (89, .getfield 56, 3, 11, 24, 2), (92, .aload_n 0, 1, 0, 0, 0), (93, .getfield 375, 3, 11, 31, 0), (96, .iaload, 1, 0, 0, 0), (97, .iconst 1, 1, 0, 0, 0), (98, .isub, 1, 0, 0, 0), (99, .invokevirtual 322, 3, 67, 2, 45), (102, .iastore, 1, 0, 0, 0), (103, .aload_n 0, 1, 0, 0, 0), (104, .getfield 62, 3, 11, 26, 2), (107, .iload_n 1, 1, 0, 0, 0), (108, .aload_n 0, 1, 0, 0, 0), (109, .iconst 0, 1, 0, 0, 0), (110, .iconst 5, 1, 0, 0, 0), (111, .invokevirtual 322, 3, 67, 2, 45), (114, .iastore, 1, 0, 0, 0), (115, .aload_n 0, 1, 0, 0, 0), (116, .getfield 65, 3, 11, 27, 2), (119, .iload_n 1, 1, 0, 0, 0), (120, .aload_n 0, 1, 0, 0, 0), (121, .ldc2_w 224, 3, 26990, 0, 0), (124, .invokevirtual 286, 3, 62, 1, 45), (127, .ifCond .eq 7, 3, 134, 0, 0), (130, .iconst 0, 1, 0, 0, 0), (131, .goto 32, 3, 163, 0, 0), (134, .aload_n 0, 1, 0, 0, 0), (135, .ldc2_w 226, 3, 7304564, 0, 0), (138, .invokevirtual 286, 3, 62, 1, 45), (141, .ifCond .eq 7, 3, 148, 0, 0), (144, .iconst 1, 1, 0, 0, 0), (145, .goto 18, 3, 163, 0, 0), (148, .aload_n 0, 1, 0, 0, 0), (149, .ldc2_w 228, 3, 1685022067, 0, 0), (152, .invokevirtual 286, 3, 62, 1, 45), (155, .ifCond .eq 7, 3, 162, 0, 0), (158, .iconst 2, 1, 0, 0, 0), (159, .goto 4, 3, 163, 0, 0), (162, .iconst 3, 1, 0, 0, 0), (163, .iastore, 1, 0, 0, 0), (164, .aload_n 0, 1, 0, 0, 0), (165, .aload_n 0, 1, 0, 0, 0), (166, .ldc2_w 224, 3, 26990, 0, 0), (169, .invokevirtual 286, 3, 62, 1, 45), (172, .ifCond .ne 33, 3, 205, 0, 0), (175, .aload_n 0, 1, 0, 0, 0), (176, .ldc2_w 226, 3, 7304564, 0, 0), (179, .invokevirtual 286, 3, 62, 1, 45), (182, .ifCond .ne 23, 3, 205, 0, 0), (185, .aload_n 0, 1, 0, 0, 0), (186, .ldc2_w 228, 3, 1685022067, 0, 0), (189, .invokevirtual 286, 3, 62, 1, 45), (192, .ifCond .ne 13, 3, 205, 0, 0), (195, .aload_n 0, 1, 0, 0, 0), (196, .ldc2_w 232, 3, 499850634611, 0, 0), (199, .invokevirtual 286, 3, 62, 1, 45), (202, .ifCond .eq 7, 3, 209, 0, 0), (205, .iconst 1, 1, 0, 0, 0), (206, .goto 4, 3, 210, 0, 0), (209, .iconst 0, 1, 0, 0, 0), (210, .invokevirtual 318, 3, 66, 1, 44), (213, .aload_n 0, 1, 0, 0, 0), (214, .getfield 71, 3, 11, 29, 2), (217, .iload_n 1, 1, 0, 0, 0), (218, .iconst 0, 1, 0, 0, 0), (219, .bastore, 1, 0, 0, 0), (220, .aload_n 0, 1, 0, 0, 0), (221, .invokevirtual 276, 3, 61, 0, 45), (224, .ifCond .eq 95, 3, 319, 0, 0), (227, .aload_n 0, 1, 0, 0, 0), (228, .getfield 65, 3, 11, 27, 2), (231, .iload_n 1, 1, 0, 0, 0), (232, .iaload, 1, 0, 0, 0), (233, .iconst 2, 1, 0, 0, 0), (234, .if_icmp .ne 85, 3, 319, 0, 0), (237, .aload_n 0, 1, 0, 0, 0), (238, .getfield 248, 3, 11, 8, 0), (241, .iconst 2, 1, 0, 0, 0), (242, .if_icmp .eq 7, 3, 249, 0, 0), (245, .aload_n 0, 1, 0, 0, 0), (246, .invokevirtual 283, 3, 64, 0, 44), (249, .aload_n 0, 1, 0, 0, 0), (250, .getfield 68, 3, 11, 28, 2), (253, .iload_n 1, 1, 0, 0, 0), (254, .aload_n 0, 1, 0, 0, 0), (255, .aload_n 0, 1, 0, 0, 0), (256, .getfield 295, 3, 11, 21, 0), (259, .aload_n 0, 1, 0, 0, 0), (260, .getfield 255, 3, 11, 10, 1), (263, .invokevirtual 314, 3, 65, 2, 45), (266, .iastore, 1, 0, 0, 0), (267, .aload_n 0, 1, 0, 0, 0), (268, .invokevirtual 276, 3, 61, 0, 45), (271, .ifCond .eq 21, 3, 292, 0, 0), (274, .aload_n 0, 1, 0, 0, 0), (275, .getfield 68, 3, 11, 28, 2), (278, .iload_n 1, 1, 0, 0, 0), (279, .iaload, 1, 0, 0, 0), (280, .ifCond .ge 12, 3, 292, 0, 0), (283, .aload_n 0, 1, 0, 0, 0), (284, .iconst 5, 1, 0, 0, 0), (285, .aload_n 0, 1, 0, 0, 0), (286, .getfield 241, 3, 11, 6, 0), (289, .invokevirtual 272, 3, 63, 2, 44), (292, .aload_n 0, 1, 0, 0, 0), (293, .invokevirtual 276, 3, 61, 0, 45), (296, .ifCond .eq 7, 3, 303, 0, 0), (299, .aload_n 0, 1, 0, 0, 0), (300, .invokevirtual 280, 3, 60, 0, 44), (303, .aload_n 0, 1, 0, 0, 0), (304, .getfield 71, 3, 11, 29, 2), (307, .iload_n 1, 1, 0, 0, 0), (308, .aload_n 0, 1, 0, 0, 0), (309, .ldc2_w 230, 3, 7883958458510370148, 0, 0), (312, .invokevirtual 333, 3, 69, 1, 45), (315, .bastore, 1, 0, 0, 0), (316, .goto 53, 3, 369, 0, 0), (319, .aload_n 0, 1, 0, 0, 0), (320, .getfield 68, 3, 11, 28, 2), (323, .iload_n 1, 1, 0, 0, 0), (324, .aload_n 0, 1, 0, 0, 0), (325, .ldc2_w 234, 3, 1818584692, 0, 0), (328, .invokevirtual 286, 3, 62, 1, 45), (331, .ifCond .eq 7, 3, 338, 0, 0), (334, .iconst 0, 1, 0, 0, 0), (335, .goto 4, 3, 339, 0, 0), (338, .iconst 1, 1, 0, 0, 0), (339, .iastore, 1, 0, 0, 0), (340, .aload_n 0, 1, 0, 0, 0), (341, .aload_n 0, 1, 0, 0, 0), (342, .ldc2_w 234, 3, 1818584692, 0, 0), (345, .invokevirtual 286, 3, 62, 1, 45), (348, .ifCond .ne 13, 3, 361, 0, 0), (351, .aload_n 0, 1, 0, 0, 0), (352, .ldc2_w 236, 3, 491394656372, 0, 0), (355, .invokevirtual 286, 3, 62, 1, 45), (358, .ifCond .eq 7, 3, 365, 0, 0), (361, .iconst 1, 1, 0, 0, 0), (362, .goto 4, 3, 366, 0, 0), (365, .iconst 0, 1, 0, 0, 0), (366, .invokevirtual 318, 3, 66, 1, 44), (369, .aload_n 0, 1, 0, 0, 0), (370, .aload_n 0, 1, 0, 0, 0), (371, .bipush 59, 2, 0, 0, 0), (373, .invokevirtual 326, 3, 68, 1, 45), (376, .invokevirtual 318, 3, 66, 1, 44), (379, .aload_n 0, 1, 0, 0, 0), (380, .getfield 53, 3, 11, 23, 2), (383, .aload_n 0, 1, 0, 0, 0), (384, .getfield 375, 3, 11, 31, 0), (387, .dup2, 1, 0, 0, 0), (388, .iaload, 1, 0, 0, 0), (389, .iconst 1, 1, 0, 0, 0), (390, .iadd, 1, 0, 0, 0), (391, .iastore, 1, 0, 0, 0), (392, .return_, 1, 0, 0, 0)]
def cu_80 : List (Nat × List Nat) := [(7, [0]), (24, [0]), (28, [0]), (32, [0]), (40, [0]), (88, [0, 1]), (102, [0, 1]), (114, [0, 1]), (127, [0, 1]), (141, [0, 1]), (155, [0, 1]), (163, [0, 1]), (172, [0, 1]), (182, [0, 1]), (192, [0, 1]), (202, [0, 1]), (205, [0, 1]), (210, [0, 1]), (213, [0, 1]), (224, [0, 1]), (249, [0, 1]), (266, [0, 1]), (271, [0, 1]), (292, [0, 1]), (296, [0, 1]), (303, [0, 1]), (315, [0]), (319, [0, 1]), (331, [0]), (339, [0]), (348, [0]), (358, [0]), (361, [0]), (366, [0]), (369, [0]), (376, [0]), (379, [0])]
noncomputable def G_80 : tm_G := fun id as M => if id = 62 then F_62 as M else if id = 64 then F_64 as M else if id = 61 then F_61 as M else if id = 60 then F_60 as M else if id = 67 then F_67 as M else if id = 66 then F_66 as M else if id = 65 then F_65 as M else if id = 63 then F_63 as M else if id = 69 then F_69 as M else if id = 68 then F_68 as M else none
noncomputable def F_80 : List Value → tm_M → Option tm_R := tm_m tm_sh none G_80 false cd_80 cu_80 205 2
theorem gg_80 : tm_Gg G_80 := by
  intro id as M r h
  unfold G_80 at h
  rcases tm_ite_e h with ⟨_, h⟩ | ⟨_, h⟩
  · exact gr_62 h
  rcases tm_ite_e h with ⟨_, h⟩ | ⟨_, h⟩
  · exact gr_64 h
  rcases tm_ite_e h with ⟨_, h⟩ | ⟨_, h⟩
  · exact gr_61 h
  rcases tm_ite_e h with ⟨_, h⟩ | ⟨_, h⟩
  · exact gr_60 h
  rcases tm_ite_e h with ⟨_, h⟩ | ⟨_, h⟩
  · exact gr_67 h
  rcases tm_ite_e h with ⟨_, h⟩ | ⟨_, h⟩
  · exact gr_66 h
  rcases tm_ite_e h with ⟨_, h⟩ | ⟨_, h⟩
  · exact gr_65 h
  rcases tm_ite_e h with ⟨_, h⟩ | ⟨_, h⟩
  · exact gr_63 h
  rcases tm_ite_e h with ⟨_, h⟩ | ⟨_, h⟩
  · exact gr_69 h
  rcases tm_ite_e h with ⟨_, h⟩ | ⟨_, h⟩
  · exact gr_68 h
  cases h
theorem gm_80 (l : Launch) : ∀ id as M r, G_80 id as M = some r → tm_MA tm_sh l (tm_mt id) as M r := by
  intro id as M r h
  unfold G_80 at h
  rcases tm_ite_e h with ⟨rfl, h⟩ | ⟨_, h⟩
  · exact con_62 l h
  rcases tm_ite_e h with ⟨rfl, h⟩ | ⟨_, h⟩
  · exact con_64 l h
  rcases tm_ite_e h with ⟨rfl, h⟩ | ⟨_, h⟩
  · exact con_61 l h
  rcases tm_ite_e h with ⟨rfl, h⟩ | ⟨_, h⟩
  · exact con_60 l h
  rcases tm_ite_e h with ⟨rfl, h⟩ | ⟨_, h⟩
  · exact con_67 l h
  rcases tm_ite_e h with ⟨rfl, h⟩ | ⟨_, h⟩
  · exact con_66 l h
  rcases tm_ite_e h with ⟨rfl, h⟩ | ⟨_, h⟩
  · exact con_65 l h
  rcases tm_ite_e h with ⟨rfl, h⟩ | ⟨_, h⟩
  · exact con_63 l h
  rcases tm_ite_e h with ⟨rfl, h⟩ | ⟨_, h⟩
  · exact con_69 l h
  rcases tm_ite_e h with ⟨rfl, h⟩ | ⟨_, h⟩
  · exact con_68 l h
  cases h
theorem gr_80 {as : List Value} {M : tm_M} {r : tm_R} (h : F_80 as M = some r) : tm_gr M r.2 := tm_m_gr gg_80 h
theorem ck_80 : tm_cdk (tm_mt 80).1.cls false tm_mt (tm_mt 80) false cd_80 := tm_cdk_of (LK := lk_RX11) (ix := [86, 115, 140, 141, 114, 112, 113, 141, 140, 141, 142, 140, 141, 142, 143, 141, 117, 144, 117, 145, 87, 115, 88, 115, 89, 115, 87, 115, 88, 115, 89, 115, 91, 115, 124, 146, 112, 145, 108, 114, 147, 133, 101, 127, 112, 147, 96, 109, 112, 113, 146, 90, 119, 147, 92, 115, 92, 115, 93, 115, 124, 129, 124, 140, 141]) lc_RX11 (by decide +kernel)
theorem con_80 (l : Launch) {as : List Value} {M : tm_M} {r : tm_R} (h : F_80 as M = some r) : tm_MA tm_sh l (tm_mt 80) as M r := tm_sound (t := tm_mt 80) tm_Sok_ok tm_CL_ok gg_80 (gm_80 l) (fun _ _ => ⟨rfl, rfl⟩) ck_80 (by decide +kernel) (fun h => by cases h) (fun _ _ _ _ => tm_nos_all (by decide +kernel)) h
def cd_81 : List tm_E := [(0, .aload_n 0, 1, 0, 0, 0), (1, .invokevirtual 292, 3, 54, 0, 44), (4, .aload_n 0, 1, 0, 0, 0), (5, .iconst 1, 1, 0, 0, 0), (6, .aload_n 0, 1, 0, 0, 0), (7, .getfield 372, 3, 11, 30, 0), (10, .isub, 1, 0, 0, 0), (11, .putfield 375, 3, 11, 31, 0), (14, .aload_n 0, 1, 0, 0, 0), (15, .getfield 53, 3, 11, 23, 2), (18, .aload_n 0, 1, 0, 0, 0), (19, .getfield 375, 3, 11, 31, 0), (22, .iconst 0, 1, 0, 0, 0), (23, .iastore, 1, 0, 0, 0), (24, .aload_n 0, 1, 0, 0, 0), (25, .invokevirtual 280, 3, 60, 0, 44), (28, .aload_n 0, 1, 0, 0, 0), (29, .aload_n 0, 1, 0, 0, 0), (30, .ldc2_w 220, 3, 422607680627, 0, 0), (33, .invokevirtual 286, 3, 62, 1, 45), (36, .invokevirtual 318, 3, 66, 1, 44), (39, .aload_n 0, 1, 0, 0, 0), (40, .getfield 56, 3, 11, 24, 2), (43, .aload_n 0, 1, 0, 0, 0), (44, .getfield 375, 3, 11, 31, 0), (47, .aload_n 0, 1, 0, 0, 0), (48, .iconst 1, 1, 0, 0, 0), (49, .sipush 200, 3, 0, 0, 0), (52, .invokevirtual 322, 3, 67, 2, 45), (55, .iastore, 1, 0, 0, 0), (56, .aload_n 0, 1, 0, 0, 0), (57, .aload_n 0, 1, 0, 0, 0), (58, .bipush 59, 2, 0, 0, 0), (60, .invokevirtual 326, 3, 68, 1, 45), (63, .invokevirtual 318, 3, 66, 1, 44), (66, .aload_n 0, 1, 0, 0, 0), (67, .invokevirtual 276, 3, 61, 0, 45), (70, .ifCond .eq 17, 3, 87, 0, 0), (73, .aload_n 0, 1, 0, 0, 0), (74, .getfield 248, 3, 11, 8, 0), (77, .ifCond .eq 10, 3, 87, 0, 0), (80, .aload_n 0, 1, 0, 0, 0), (81, .invokevirtual 378, 3, 80, 0, 44), (84, .goto (-18), 3, 66, 0, 0), (87, .aload_n 0, 1, 0, 0, 0), (88, .invokevirtual 276, 3, 61, 0, 45), (91, .ifCond .ne 5, 3, 96, 0, 0), (94, .iconst (-1), 1, 0, 0, 0), (95, .ireturn, 1, 0, 0, 0), (96, .aload_n 0, 1, 0, 0, 0), (97, .aload_n 0, 1, 0, 0, 0), (98, .getfield 375, 3, 11, 31, 0), (101, .putfield 372, 3, 11, 30, 0), (104, .aload_n 0, 1, 0, 0, 0), (105, .iconst 1, 1, 0, 0, 0), (106, .putfield 308, 3, 11, 32, 3), (109, .aload_n 0, 1, 0, 0, 0), (110, .iconst 0, 1, 0, 0, 0), (111, .putfield 311, 3, 11, 33, 3), (114, .aload_n 0, 1, 0, 0, 0), (115, .getfield 53, 3, 11, 23, 2), (118, .aload_n 0, 1, 0, 0, 0), (119, .getfield 375, 3, 11, 31, 0), (122, .iaload, 1, 0, 0, 0), (123, .ireturn, 1, 0, 0, 0)]
def cu_81 : List (Nat × List Nat) := [(4, [0]), (28, [0]), (36, [0]), (39, [0]), (55, [0]), (63, [0]), (66, [0]), (70, [0]), (84, [0]), (87, [0]), (91, [0])]
noncomputable def G_81 : tm_G := fun id as M => if id = 54 then F_54 as M else if id = 60 then F_60 as M else if id = 62 then F_62 as M else if id = 66 then F_66 as M else if id = 67 then F_67 as M else if id = 68 then F_68 as M else if id = 61 then F_61 as M else if id = 80 then F_80 as M else none
noncomputable def F_81 : List Value → tm_M → Option tm_R := tm_m tm_sh none G_81 false cd_81 cu_81 66 1
theorem gg_81 : tm_Gg G_81 := by
  intro id as M r h
  unfold G_81 at h
  rcases tm_ite_e h with ⟨_, h⟩ | ⟨_, h⟩
  · exact gr_54 h
  rcases tm_ite_e h with ⟨_, h⟩ | ⟨_, h⟩
  · exact gr_60 h
  rcases tm_ite_e h with ⟨_, h⟩ | ⟨_, h⟩
  · exact gr_62 h
  rcases tm_ite_e h with ⟨_, h⟩ | ⟨_, h⟩
  · exact gr_66 h
  rcases tm_ite_e h with ⟨_, h⟩ | ⟨_, h⟩
  · exact gr_67 h
  rcases tm_ite_e h with ⟨_, h⟩ | ⟨_, h⟩
  · exact gr_68 h
  rcases tm_ite_e h with ⟨_, h⟩ | ⟨_, h⟩
  · exact gr_61 h
  rcases tm_ite_e h with ⟨_, h⟩ | ⟨_, h⟩
  · exact gr_80 h
  cases h
theorem gm_81 (l : Launch) : ∀ id as M r, G_81 id as M = some r → tm_MA tm_sh l (tm_mt id) as M r := by
  intro id as M r h
  unfold G_81 at h
  rcases tm_ite_e h with ⟨rfl, h⟩ | ⟨_, h⟩
  · exact con_54 l h
  rcases tm_ite_e h with ⟨rfl, h⟩ | ⟨_, h⟩
  · exact con_60 l h
  rcases tm_ite_e h with ⟨rfl, h⟩ | ⟨_, h⟩
  · exact con_62 l h
  rcases tm_ite_e h with ⟨rfl, h⟩ | ⟨_, h⟩
  · exact con_66 l h
  rcases tm_ite_e h with ⟨rfl, h⟩ | ⟨_, h⟩
  · exact con_67 l h
  rcases tm_ite_e h with ⟨rfl, h⟩ | ⟨_, h⟩
  · exact con_68 l h
  rcases tm_ite_e h with ⟨rfl, h⟩ | ⟨_, h⟩
  · exact con_61 l h
  rcases tm_ite_e h with ⟨rfl, h⟩ | ⟨_, h⟩
  · exact con_80 l h
  cases h
theorem gr_81 {as : List Value} {M : tm_M} {r : tm_R} (h : F_81 as M = some r) : tm_gr M r.2 := tm_m_gr gg_81 h
theorem ck_81 : tm_cdk (tm_mt 81).1.cls false tm_mt (tm_mt 81) false cd_81 := tm_cdk_of (LK := lk_RX11) (ix := [132, 148, 149, 140, 141, 113, 85, 115, 124, 143, 141, 117, 129, 124, 112, 108, 150, 112, 141, 151, 138, 139, 140, 141]) lc_RX11 (by decide +kernel)
theorem con_81 (l : Launch) {as : List Value} {M : tm_M} {r : tm_R} (h : F_81 as M = some r) : tm_MA tm_sh l (tm_mt 81) as M r := tm_sound (t := tm_mt 81) tm_Sok_ok tm_CL_ok gg_81 (gm_81 l) (fun _ _ => ⟨rfl, rfl⟩) ck_81 (by decide +kernel) (fun h => by cases h) (fun _ _ _ _ => tm_nos_all (by decide +kernel)) h
def cd_82 : List tm_E := [(0, .iload_n 1, 1, 0, 0, 0), (1, .lookupswitch 43 #[(0, 27), (1, 35)], 27, 0, 0, 0), (28, .aload_n 0, 1, 0, 0, 0), (29, .getfield 16, 3, 10, 1, 2), (32, .getfield 115, 3, 5, 4, 0), (35, .ireturn, 1, 0, 0, 0), (36, .aload_n 0, 1, 0, 0, 0), (37, .getfield 16, 3, 10, 1, 2), (40, .getfield 118, 3, 5, 5, 0), (43, .ireturn, 1, 0, 0, 0), (44, .iconst (-1), 1, 0, 0, 0), (45, .ireturn, 1, 0, 0, 0)]
def cu_82 : List (Nat × List Nat) := []
def G_82 : tm_G := fun _ _ _ => none
noncomputable def F_82 : List Value → tm_M → Option tm_R := tm_m tm_sh none G_82 false cd_82 cu_82 13 2
theorem gg_82 : tm_Gg G_82 := fun _ _ _ _ h => by cases h
theorem gm_82 (l : Launch) : ∀ id as M r, G_82 id as M = some r → tm_MA tm_sh l (tm_mt id) as M r := fun _ _ _ _ h => by cases h
theorem gr_82 {as : List Value} {M : tm_M} {r : tm_R} (h : F_82 as M = some r) : tm_gr M r.2 := tm_m_gr gg_82 h
theorem ck_82 : tm_cdk (tm_mt 82).1.cls false tm_mt (tm_mt 82) false cd_82 := tm_cdk_of (LK := lk_RX10) (ix := [32, 49, 32, 50]) lc_RX10 (by decide +kernel)
theorem con_82 (l : Launch) {as : List Value} {M : tm_M} {r : tm_R} (h : F_82 as M = some r) : tm_MA tm_sh l (tm_mt 82) as M r := tm_sound (t := tm_mt 82) tm_Sok_ok tm_CL_ok gg_82 (gm_82 l) (fun _ _ => ⟨rfl, rfl⟩) ck_82 (by decide +kernel) (fun h => by cases h) (fun _ _ _ _ => tm_nos_all (by decide +kernel)) h
def cd_83 : List tm_E := [(0, .iload_n 1, 1, 0, 0, 0), (1, .ifCond .ne 10, 3, 11, 0, 0), (4, .aload_n 0, 1, 0, 0, 0), (5, .getfield 189, 3, 11, 4, 0), (8, .goto 16, 3, 24, 0, 0), (11, .iload_n 1, 1, 0, 0, 0), (12, .iconst 1, 1, 0, 0, 0), (13, .if_icmp .ne 10, 3, 23, 0, 0), (16, .aload_n 0, 1, 0, 0, 0), (17, .getfield 16, 3, 11, 5, 0), (20, .goto 4, 3, 24, 0, 0), (23, .iconst (-1), 1, 0, 0, 0), (24, .ireturn, 1, 0, 0, 0)]
def cu_83 : List (Nat × List Nat) := [(24, [])]
def G_83 : tm_G := fun _ _ _ => none
noncomputable def F_83 : List Value → tm_M → Option tm_R := tm_m tm_sh none G_83 false cd_83 cu_83 14 2
theorem gg_83 : tm_Gg G_83 := fun _ _ _ _ h => by cases h
theorem gm_83 (l : Launch) : ∀ id as M r, G_83 id as M = some r → tm_MA tm_sh l (tm_mt id) as M r := fun _ _ _ _ h => by cases h
theorem gr_83 {as : List Value} {M : tm_M} {r : tm_R} (h : F_83 as M = some r) : tm_gr M r.2 := tm_m_gr gg_83 h
theorem ck_83 : tm_cdk (tm_mt 83).1.cls false tm_mt (tm_mt 83) false cd_83 := tm_cdk_of (LK := lk_RX11) (ix := [107, 152]) lc_RX11 (by decide +kernel)
theorem con_83 (l : Launch) {as : List Value} {M : tm_M} {r : tm_R} (h : F_83 as M = some r) : tm_MA tm_sh l (tm_mt 83) as M r := tm_sound (t := tm_mt 83) tm_Sok_ok tm_CL_ok gg_83 (gm_83 l) (fun _ _ => ⟨rfl, rfl⟩) ck_83 (by decide +kernel) (fun h => by cases h) (fun _ _ _ _ => tm_nos_all (by decide +kernel)) h
def cd_84 : List tm_E := [(0, .iload_n 1, 1, 0, 0, 0), (1, .ifCond .lt 21, 3, 22, 0, 0), (4, .iload_n 1, 1, 0, 0, 0), (5, .aload_n 0, 1, 0, 0, 0), (6, .getfield 18, 3, 0, 1, 0), (9, .if_icmp .ge 13, 3, 22, 0, 0), (12, .iload_n 1, 1, 0, 0, 0), (13, .bipush 12, 2, 0, 0, 0), (15, .if_icmp .ge 7, 3, 22, 0, 0), (18, .iconst 1, 1, 0, 0, 0), (19, .goto 4, 3, 23, 0, 0), (22, .iconst 0, 1, 0, 0, 0), (23, .ireturn, 1, 0, 0, 0)]
def cu_84 : List (Nat × List Nat) := [(22, []), (23, [])]
def G_84 : tm_G := fun _ _ _ => none
noncomputable def F_84 : List Value → tm_M → Option tm_R := tm_m tm_sh none G_84 true cd_84 cu_84 14 2
theorem gg_84 : tm_Gg G_84 := fun _ _ _ _ h => by cases h
theorem gm_84 (l : Launch) : ∀ id as M r, G_84 id as M = some r → tm_MA tm_sh l (tm_mt id) as M r := fun _ _ _ _ h => by cases h
theorem gr_84 {as : List Value} {M : tm_M} {r : tm_R} (h : F_84 as M = some r) : tm_gr M r.2 := tm_m_gr gg_84 h
theorem ck_84 : tm_cdk (tm_mt 84).1.cls false tm_mt (tm_mt 84) true cd_84 := tm_cdk_of (LK := lk_RX0) (ix := [6]) lc_RX0 (by decide +kernel)
theorem con_84 (l : Launch) {as : List Value} {M : tm_M} {r : tm_R} (h : F_84 as M = some r) : tm_MA tm_sh l (tm_mt 84) as M r := tm_sound (t := tm_mt 84) tm_Sok_ok tm_CL_ok gg_84 (gm_84 l) (fun _ _ => ⟨rfl, rfl⟩) ck_84 (by decide +kernel) (fun h => by cases h) (fun _ _ _ _ => tm_nos_all (by decide +kernel)) h
def cd_85 : List tm_E := [(0, .iload_n 1, 1, 0, 0, 0), (1, .ifCond .eq 14, 3, 15, 0, 0), (4, .iconst 4, 1, 0, 0, 0), (5, .aload_n 0, 1, 0, 0, 0), (6, .getfield 29, 3, 8, 5, 0), (9, .isub, 1, 0, 0, 0), (10, .iconst 3, 1, 0, 0, 0), (11, .iand, 1, 0, 0, 0), (12, .goto 7, 3, 19, 0, 0), (15, .aload_n 0, 1, 0, 0, 0), (16, .getfield 29, 3, 8, 5, 0), (19, .ireturn, 1, 0, 0, 0)]
def cu_85 : List (Nat × List Nat) := [(19, [])]
def G_85 : tm_G := fun _ _ _ => none
noncomputable def F_85 : List Value → tm_M → Option tm_R := tm_m tm_sh none G_85 false cd_85 cu_85 13 2
theorem gg_85 : tm_Gg G_85 := fun _ _ _ _ h => by cases h
theorem gm_85 (l : Launch) : ∀ id as M r, G_85 id as M = some r → tm_MA tm_sh l (tm_mt id) as M r := fun _ _ _ _ h => by cases h
theorem gr_85 {as : List Value} {M : tm_M} {r : tm_R} (h : F_85 as M = some r) : tm_gr M r.2 := tm_m_gr gg_85 h
theorem ck_85 : tm_cdk (tm_mt 85).1.cls false tm_mt (tm_mt 85) false cd_85 := tm_cdk_of (LK := lk_RX8) (ix := [18, 18]) lc_RX8 (by decide +kernel)
theorem con_85 (l : Launch) {as : List Value} {M : tm_M} {r : tm_R} (h : F_85 as M = some r) : tm_MA tm_sh l (tm_mt 85) as M r := tm_sound (t := tm_mt 85) tm_Sok_ok tm_CL_ok gg_85 (gm_85 l) (fun _ _ => ⟨rfl, rfl⟩) ck_85 (by decide +kernel) (fun h => by cases h) (fun _ _ _ _ => tm_nos_all (by decide +kernel)) h
def cd_86 : List tm_E := [(0, .iload_n 0, 1, 0, 0, 0), (1, .lookupswitch 31 #[(1, 27), (2, 29)], 27, 0, 0, 0), (28, .iconst 2, 1, 0, 0, 0), (29, .ireturn, 1, 0, 0, 0), (30, .iconst 1, 1, 0, 0, 0), (31, .ireturn, 1, 0, 0, 0), (32, .iload_n 0, 1, 0, 0, 0), (33, .ireturn, 1, 0, 0, 0)]
def cu_86 : List (Nat × List Nat) := []
def G_86 : tm_G := fun _ _ _ => none
noncomputable def F_86 : List Value → tm_M → Option tm_R := tm_m tm_sh none G_86 false cd_86 cu_86 9 1
theorem gg_86 : tm_Gg G_86 := fun _ _ _ _ h => by cases h
theorem gm_86 (l : Launch) : ∀ id as M r, G_86 id as M = some r → tm_MA tm_sh l (tm_mt id) as M r := fun _ _ _ _ h => by cases h
theorem gr_86 {as : List Value} {M : tm_M} {r : tm_R} (h : F_86 as M = some r) : tm_gr M r.2 := tm_m_gr gg_86 h
theorem ck_86 : tm_cdk (tm_mt 86).1.cls false tm_mt (tm_mt 86) false cd_86 := tm_cdk_of (LK := lk_RX10) (ix := []) lc_RX10 (by decide +kernel)
theorem con_86 (l : Launch) {as : List Value} {M : tm_M} {r : tm_R} (h : F_86 as M = some r) : tm_MA tm_sh l (tm_mt 86) as M r := tm_sound (t := tm_mt 86) tm_Sok_ok tm_CL_ok gg_86 (gm_86 l) (fun _ _ => ⟨rfl, rfl⟩) ck_86 (by decide +kernel) (fun h => by cases h) (fun _ _ _ _ => tm_nos_all (by decide +kernel)) h
def cd_87 : List tm_E := [(0, .iload_n 1, 1, 0, 0, 0), (1, .ifCond .eq 13, 3, 14, 0, 0), (4, .aload_n 0, 1, 0, 0, 0), (5, .getfield 32, 3, 8, 6, 0), (8, .invokestatic 80, 3, 86, 1, 1), (11, .goto 7, 3, 18, 0, 0), (14, .aload_n 0, 1, 0, 0, 0), (15, .getfield 32, 3, 8, 6, 0), (18, .ireturn, 1, 0, 0, 0)]
def cu_87 : List (Nat × List Nat) := [(11, []), (18, [])]
noncomputable def G_87 : tm_G := fun id as M => if id = 86 then F_86 as M else none
noncomputable def F_87 : List Value → tm_M → Option tm_R := tm_m tm_sh none G_87 false cd_87 cu_87 10 2
theorem gg_87 : tm_Gg G_87 := by
  intro id as M r h
  unfold G_87 at h
  rcases tm_ite_e h with ⟨_, h⟩ | ⟨_, h⟩
  · exact gr_86 h
  cases h
theorem gm_87 (l : Launch) : ∀ id as M r, G_87 id as M = some r → tm_MA tm_sh l (tm_mt id) as M r := by
  intro id as M r h
  unfold G_87 at h
  rcases tm_ite_e h with ⟨rfl, h⟩ | ⟨_, h⟩
  · exact con_86 l h
  cases h
theorem gr_87 {as : List Value} {M : tm_M} {r : tm_R} (h : F_87 as M = some r) : tm_gr M r.2 := tm_m_gr gg_87 h
theorem ck_87 : tm_cdk (tm_mt 87).1.cls false tm_mt (tm_mt 87) false cd_87 := tm_cdk_of (LK := lk_RX8) (ix := [19, 20, 19]) lc_RX8 (by decide +kernel)
theorem con_87 (l : Launch) {as : List Value} {M : tm_M} {r : tm_R} (h : F_87 as M = some r) : tm_MA tm_sh l (tm_mt 87) as M r := tm_sound (t := tm_mt 87) tm_Sok_ok tm_CL_ok gg_87 (gm_87 l) (fun _ _ => ⟨rfl, rfl⟩) ck_87 (by decide +kernel) (fun h => by cases h) (fun _ _ _ _ => tm_nos_all (by decide +kernel)) h
def cd_88 : List tm_E := [(0, .iload_n 1, 1, 0, 0, 0), (1, .ifCond .lt 9, 3, 10, 0, 0), (4, .iload_n 1, 1, 0, 0, 0), (5, .bipush 32, 2, 0, 0, 0), (7, .if_icmp .lt 5, 3, 12, 0, 0), (10, .iconst 0, 1, 0, 0, 0), (11, .ireturn, 1, 0, 0, 0), (12, .iload_n 2, 1, 0, 0, 0), (13, .ifCond .eq 15, 3, 28, 0, 0), (16, .aload_n 0, 1, 0, 0, 0), (17, .getfield 11, 3, 8, 0, 2), (20, .iload_n 1, 1, 0, 0, 0), (21, .iaload, 1, 0, 0, 0), (22, .invokestatic 80, 3, 86, 1, 1), (25, .goto 9, 3, 34, 0, 0), (28, .aload_n 0, 1, 0, 0, 0), (29, .getfield 11, 3, 8, 0, 2), (32, .iload_n 1, 1, 0, 0, 0), (33, .iaload, 1, 0, 0, 0), (34, .ireturn, 1, 0, 0, 0)]
def cu_88 : List (Nat × List Nat) := [(10, []), (25, []), (34, [])]
noncomputable def G_88 : tm_G := fun id as M => if id = 86 then F_86 as M else none
noncomputable def F_88 : List Value → tm_M → Option tm_R := tm_m tm_sh none G_88 false cd_88 cu_88 21 3
theorem gg_88 : tm_Gg G_88 := by
  intro id as M r h
  unfold G_88 at h
  rcases tm_ite_e h with ⟨_, h⟩ | ⟨_, h⟩
  · exact gr_86 h
  cases h
theorem gm_88 (l : Launch) : ∀ id as M r, G_88 id as M = some r → tm_MA tm_sh l (tm_mt id) as M r := by
  intro id as M r h
  unfold G_88 at h
  rcases tm_ite_e h with ⟨rfl, h⟩ | ⟨_, h⟩
  · exact con_86 l h
  cases h
theorem gr_88 {as : List Value} {M : tm_M} {r : tm_R} (h : F_88 as M = some r) : tm_gr M r.2 := tm_m_gr gg_88 h
theorem ck_88 : tm_cdk (tm_mt 88).1.cls false tm_mt (tm_mt 88) false cd_88 := tm_cdk_of (LK := lk_RX8) (ix := [11, 20, 11]) lc_RX8 (by decide +kernel)
theorem con_88 (l : Launch) {as : List Value} {M : tm_M} {r : tm_R} (h : F_88 as M = some r) : tm_MA tm_sh l (tm_mt 88) as M r := tm_sound (t := tm_mt 88) tm_Sok_ok tm_CL_ok gg_88 (gm_88 l) (fun _ _ => ⟨rfl, rfl⟩) ck_88 (by decide +kernel) (fun h => by cases h) (fun _ _ _ _ => tm_nos_all (by decide +kernel)) h
def cd_89 : List tm_E := [(0, .iconst 4, 1, 0, 0, 0), (1, .aload_n 0, 1, 0, 0, 0), (2, .getfield 26, 3, 8, 4, 0), (5, .imul, 1, 0, 0, 0), (6, .iconst 1, 1, 0, 0, 0), (7, .isub, 1, 0, 0, 0), (8, .istore_n 2, 1, 0, 0, 0), (9, .iload_n 2, 1, 0, 0, 0), (10, .ifCond .lt 22, 3, 32, 0, 0), (13, .aload_n 0, 1, 0, 0, 0), (14, .iload_n 2, 1, 0, 0, 0), (15, .iload_n 1, 1, 0, 0, 0), (16, .invokevirtual 76, 3, 88, 2, 33), (19, .istore_n 3, 1, 0, 0, 0), (20, .iload_n 3, 1, 0, 0, 0), (21, .ifCond .eq 5, 3, 26, 0, 0), (24, .iload_n 3, 1, 0, 0, 0), (25, .ireturn, 1, 0, 0, 0), (26, .iinc 2 (-1), 3, 0, 0, 0), (29, .goto (-20), 3, 9, 0, 0), (32, .iconst 0, 1, 0, 0, 0), (33, .ireturn, 1, 0, 0, 0)]
def cu_89 : List (Nat × List Nat) := [(9, [0, 1, 2]), (19, [0, 1, 2])]
noncomputable def G_89 : tm_G := fun id as M => if id = 88 then F_88 as M else none
noncomputable def F_89 : List Value → tm_M → Option tm_R := tm_m tm_sh none G_89 false cd_89 cu_89 23 4
theorem gg_89 : tm_Gg G_89 := by
  intro id as M r h
  unfold G_89 at h
  rcases tm_ite_e h with ⟨_, h⟩ | ⟨_, h⟩
  · exact gr_88 h
  cases h
theorem gm_89 (l : Launch) : ∀ id as M r, G_89 id as M = some r → tm_MA tm_sh l (tm_mt id) as M r := by
  intro id as M r h
  unfold G_89 at h
  rcases tm_ite_e h with ⟨rfl, h⟩ | ⟨_, h⟩
  · exact con_88 l h
  cases h
theorem gr_89 {as : List Value} {M : tm_M} {r : tm_R} (h : F_89 as M = some r) : tm_gr M r.2 := tm_m_gr gg_89 h
theorem ck_89 : tm_cdk (tm_mt 89).1.cls false tm_mt (tm_mt 89) false cd_89 := tm_cdk_of (LK := lk_RX8) (ix := [15, 21]) lc_RX8 (by decide +kernel)
theorem con_89 (l : Launch) {as : List Value} {M : tm_M} {r : tm_R} (h : F_89 as M = some r) : tm_MA tm_sh l (tm_mt 89) as M r := tm_sound (t := tm_mt 89) tm_Sok_ok tm_CL_ok gg_89 (gm_89 l) (fun _ _ => ⟨rfl, rfl⟩) ck_89 (by decide +kernel) (fun h => by cases h) (fun _ _ _ _ => tm_nos_all (by decide +kernel)) h
def cd_90 : List tm_E := [(0, .iload_n 1, 1, 0, 0, 0), (1, .ifCond .lt 21, 3, 22, 0, 0), (4, .iload_n 1, 1, 0, 0, 0), (5, .aload_n 0, 1, 0, 0, 0), (6, .getfield 15, 3, 8, 1, 2), (9, .arraylength, 1, 0, 0, 0), (10, .if_icmp .ge 12, 3, 22, 0, 0), (13, .aload_n 0, 1, 0, 0, 0), (14, .getfield 15, 3, 8, 1, 2), (17, .iload_n 1, 1, 0, 0, 0), (18, .iaload, 1, 0, 0, 0), (19, .goto 4, 3, 23, 0, 0), (22, .iconst 0, 1, 0, 0, 0), (23, .ireturn, 1, 0, 0, 0)]
def cu_90 : List (Nat × List Nat) := [(22, []), (23, [])]
def G_90 : tm_G := fun _ _ _ => none
noncomputable def F_90 : List Value → tm_M → Option tm_R := tm_m tm_sh none G_90 false cd_90 cu_90 15 2
theorem gg_90 : tm_Gg G_90 := fun _ _ _ _ h => by cases h
theorem gm_90 (l : Launch) : ∀ id as M r, G_90 id as M = some r → tm_MA tm_sh l (tm_mt id) as M r := fun _ _ _ _ h => by cases h
theorem gr_90 {as : List Value} {M : tm_M} {r : tm_R} (h : F_90 as M = some r) : tm_gr M r.2 := tm_m_gr gg_90 h
theorem ck_90 : tm_cdk (tm_mt 90).1.cls false tm_mt (tm_mt 90) false cd_90 := tm_cdk_of (LK := lk_RX8) (ix := [13, 13]) lc_RX8 (by decide +kernel)
theorem con_90 (l : Launch) {as : List Value} {M : tm_M} {r : tm_R} (h : F_90 as M = some r) : tm_MA tm_sh l (tm_mt 90) as M r := tm_sound (t := tm_mt 90) tm_Sok_ok tm_CL_ok gg_90 (gm_90 l) (fun _ _ => ⟨rfl, rfl⟩) ck_90 (by decide +kernel) (fun h => by cases h) (fun _ _ _ _ => tm_nos_all (by decide +kernel)) h
def cd_91 : List tm_E := [(0, .iload_n 2, 1, 0, 0, 0), (1, .tableswitch 89 0 6 #[43, 48, 53, 59, 65, 70, 83], 43, 0, 0, 0), (44, .aload_n 0, 1, 0, 0, 0), (45, .getfield 26, 3, 8, 4, 0), (48, .ireturn, 1, 0, 0, 0), (49, .aload_n 0, 1, 0, 0, 0), (50, .getfield 22, 3, 8, 3, 0), (53, .ireturn, 1, 0, 0, 0), (54, .aload_n 0, 1, 0, 0, 0), (55, .iload_n 1, 1, 0, 0, 0), (56, .invokevirtual 63, 3, 85, 1, 33), (59, .ireturn, 1, 0, 0, 0), (60, .aload_n 0, 1, 0, 0, 0), (61, .iload_n 1, 1, 0, 0, 0), (62, .invokevirtual 67, 3, 87, 1, 33), (65, .ireturn, 1, 0, 0, 0), (66, .aload_n 0, 1, 0, 0, 0), (67, .getfield 35, 3, 8, 7, 0), (70, .ireturn, 1, 0, 0, 0), (71, .aload_n 0, 1, 0, 0, 0), (72, .getfield 38, 3, 8, 8, 0), (75, .ifCond .eq 7, 3, 82, 0, 0), (78, .iconst 1, 1, 0, 0, 0), (79, .goto 4, 3, 83, 0, 0), (82, .iconst 0, 1, 0, 0, 0), (83, .ireturn, 1, 0, 0, 0), (84, .aload_n 0, 1, 0, 0, 0), (85, .iload_n 1, 1, 0, 0, 0), (86, .invokevirtual 70, 3, 89, 1, 33), (89, .ireturn, 1, 0, 0, 0), (90, .iload_n 2, 1, 0, 0, 0), (91, .bipush 10, 2, 0, 0, 0), (93, .if_icmp .lt 23, 3, 116, 0, 0), (96, .iload_n 2, 1, 0, 0, 0), (97, .bipush 10, 2, 0, 0, 0), (99, .aload_n 0, 1, 0, 0, 0), (100, .getfield 26, 3, 8, 4, 0), (103, .iadd, 1, 0, 0, 0), (104, .if_icmp .ge 12, 3, 116, 0, 0), (107, .aload_n 0, 1, 0, 0, 0), (108, .iload_n 2, 1, 0, 0, 0), (109, .bipush 10, 2, 0, 0, 0), (111, .isub, 1, 0, 0, 0), (112, .invokevirtual 73, 3, 90, 1, 33), (115, .ireturn, 1, 0, 0, 0), (116, .iload_n 2, 1, 0, 0, 0), (117, .bipush 20, 2, 0, 0, 0), (119, .if_icmp .lt 28, 3, 147, 0, 0), (122, .iload_n 2, 1, 0, 0, 0), (123, .bipush 20, 2, 0, 0, 0), (125, .iconst 4, 1, 0, 0, 0), (126, .aload_n 0, 1, 0, 0, 0), (127, .getfield 26, 3, 8, 4, 0), (130, .imul, 1, 0, 0, 0), (131, .iadd, 1, 0, 0, 0), (132, .if_icmp .ge 15, 3, 147, 0, 0), (135, .aload_n 0, 1, 0, 0, 0), (136, .iload_n 2, 1, 0, 0, 0), (137, .bipush 20, 2, 0, 0, 0), (139, .isub, 1, 0, 0, 0), (140, .iload_n 1, 1, 0, 0, 0), (141, .invokevirtual 76, 3, 88, 2, 33), (144, .goto 4, 3, 148, 0, 0), (147, .iconst (-1), 1, 0, 0, 0), (148, .ireturn, 1, 0, 0, 0)]
def cu_91 : List (Nat × List Nat) := [(59, []), (65, []), (83, []), (89, []), (115, []), (116, [0, 1, 2]), (144, []), (147, []), (148, [])]
noncomputable def G_91 : tm_G := fun id as M => if id = 85 then F_85 as M else if id = 87 then F_87 as M else if id = 89 then F_89 as M else if id = 90 then F_90 as M else if id = 88 then F_88 as M else none
noncomputable def F_91 : List Value → tm_M → Option tm_R := tm_m tm_sh none G_91 false cd_91 cu_91 66 3
theorem gg_91 : tm_Gg G_91 := by
  intro id as M r h
  unfold G_91 at h
  rcases tm_ite_e h with ⟨_, h⟩ | ⟨_, h⟩
  · exact gr_85 h
  rcases tm_ite_e h with ⟨_, h⟩ | ⟨_, h⟩
  · exact gr_87 h
  rcases tm_ite_e h with ⟨_, h⟩ | ⟨_, h⟩
  · exact gr_89 h
  rcases tm_ite_e h with ⟨_, h⟩ | ⟨_, h⟩
  · exact gr_90 h
  rcases tm_ite_e h with ⟨_, h⟩ | ⟨_, h⟩
  · exact gr_88 h
  cases h
theorem gm_91 (l : Launch) : ∀ id as M r, G_91 id as M = some r → tm_MA tm_sh l (tm_mt id) as M r := by
  intro id as M r h
  unfold G_91 at h
  rcases tm_ite_e h with ⟨rfl, h⟩ | ⟨_, h⟩
  · exact con_85 l h
  rcases tm_ite_e h with ⟨rfl, h⟩ | ⟨_, h⟩
  · exact con_87 l h
  rcases tm_ite_e h with ⟨rfl, h⟩ | ⟨_, h⟩
  · exact con_89 l h
  rcases tm_ite_e h with ⟨rfl, h⟩ | ⟨_, h⟩
  · exact con_90 l h
  rcases tm_ite_e h with ⟨rfl, h⟩ | ⟨_, h⟩
  · exact con_88 l h
  cases h
theorem gr_91 {as : List Value} {M : tm_M} {r : tm_R} (h : F_91 as M = some r) : tm_gr M r.2 := tm_m_gr gg_91 h
theorem ck_91 : tm_cdk (tm_mt 91).1.cls false tm_mt (tm_mt 91) false cd_91 := tm_cdk_of (LK := lk_RX8) (ix := [15, 22, 23, 24, 25, 26, 27, 15, 28, 15, 21]) lc_RX8 (by decide +kernel)
theorem con_91 (l : Launch) {as : List Value} {M : tm_M} {r : tm_R} (h : F_91 as M = some r) : tm_MA tm_sh l (tm_mt 91) as M r := tm_sound (t := tm_mt 91) tm_Sok_ok tm_CL_ok gg_91 (gm_91 l) (fun _ _ => ⟨rfl, rfl⟩) ck_91 (by decide +kernel) (fun h => by cases h) (fun _ _ _ _ => tm_nos_all (by decide +kernel)) h
def cd_92 : List tm_E := [(0, .aload_n 0, 1, 0, 0, 0), (1, .getfield 51, 3, 10, 6, 2), (4, .iload_n 1, 1, 0, 0, 0), (5, .invokevirtual 121, 3, 84, 1, 1), (8, .ifCond .eq 20, 3, 28, 0, 0), (11, .aload_n 0, 1, 0, 0, 0), (12, .getfield 51, 3, 10, 6, 2), (15, .getfield 125, 3, 0, 0, 2), (18, .iload_n 1, 1, 0, 0, 0), (19, .aaload, 1, 0, 0, 0), (20, .iload_n 2, 1, 0, 0, 0), (21, .iload_n 3, 1, 0, 0, 0), (22, .invokevirtual 129, 3, 91, 2, 33), (25, .goto 4, 3, 29, 0, 0), (28, .iconst (-1), 1, 0, 0, 0), (29, .ireturn, 1, 0, 0, 0)]
def cu_92 : List (Nat × List Nat) := [(8, [0, 1, 2, 3]), (25, []), (29, [])]
noncomputable def G_92 : tm_G := fun id as M => if id = 84 then F_84 as M else if id = 91 then F_91 as M else none
noncomputable def F_92 : List Value → tm_M → Option tm_R := tm_m tm_sh none G_92 false cd_92 cu_92 17 4
theorem gg_92 : tm_Gg G_92 := by
  intro id as M r h
  unfold G_92 at h
  rcases tm_ite_e h with ⟨_, h⟩ | ⟨_, h⟩
  · exact gr_84 h
  rcases tm_ite_e h with ⟨_, h⟩ | ⟨_, h⟩
  · exact gr_91 h
  cases h
theorem gm_92 (l : Launch) : ∀ id as M r, G_92 id as M = some r → tm_MA tm_sh l (tm_mt id) as M r := by
  intro id as M r h
  unfold G_92 at h
  rcases tm_ite_e h with ⟨rfl, h⟩ | ⟨_, h⟩
  · exact con_84 l h
  rcases tm_ite_e h with ⟨rfl, h⟩ | ⟨_, h⟩
  · exact con_91 l h
  cases h
theorem gr_92 {as : List Value} {M : tm_M} {r : tm_R} (h : F_92 as M = some r) : tm_gr M r.2 := tm_m_gr gg_92 h
theorem ck_92 : tm_cdk (tm_mt 92).1.cls false tm_mt (tm_mt 92) false cd_92 := tm_cdk_of (LK := lk_RX10) (ix := [37, 51, 37, 52, 53]) lc_RX10 (by decide +kernel)
theorem con_92 (l : Launch) {as : List Value} {M : tm_M} {r : tm_R} (h : F_92 as M = some r) : tm_MA tm_sh l (tm_mt 92) as M r := tm_sound (t := tm_mt 92) tm_Sok_ok tm_CL_ok gg_92 (gm_92 l) (fun _ _ => ⟨rfl, rfl⟩) ck_92 (by decide +kernel) (fun h => by cases h) (fun _ _ _ _ => tm_nos_all (by decide +kernel)) h
def cd_93 : List tm_E := [(0, .iload_n 1, 1, 0, 0, 0), (1, .ifCond .lt 20, 3, 21, 0, 0), (4, .iload_n 1, 1, 0, 0, 0), (5, .aload_n 0, 1, 0, 0, 0), (6, .getfield 24, 3, 11, 12, 2), (9, .aload_n 0, 1, 0, 0, 0), (10, .getfield 295, 3, 11, 21, 0), (13, .iaload, 1, 0, 0, 0), (14, .if_icmp .ge 7, 3, 21, 0, 0), (17, .iconst 1, 1, 0, 0, 0), (18, .goto 4, 3, 22, 0, 0), (21, .iconst 0, 1, 0, 0, 0), (22, .ireturn, 1, 0, 0, 0)]
def cu_93 : List (Nat × List Nat) := [(21, []), (22, [])]
def G_93 : tm_G := fun _ _ _ => none
noncomputable def F_93 : List Value → tm_M → Option tm_R := tm_m tm_sh none G_93 true cd_93 cu_93 14 2
theorem gg_93 : tm_Gg G_93 := fun _ _ _ _ h => by cases h
theorem gm_93 (l : Launch) : ∀ id as M r, G_93 id as M = some r → tm_MA tm_sh l (tm_mt id) as M r := fun _ _ _ _ h => by cases h
theorem gr_93 {as : List Value} {M : tm_M} {r : tm_R} (h : F_93 as M = some r) : tm_gr M r.2 := tm_m_gr gg_93 h
theorem ck_93 : tm_cdk (tm_mt 93).1.cls false tm_mt (tm_mt 93) true cd_93 := tm_cdk_of (LK := lk_RX11) (ix := [110, 133]) lc_RX11 (by decide +kernel)
theorem con_93 (l : Launch) {as : List Value} {M : tm_M} {r : tm_R} (h : F_93 as M = some r) : tm_MA tm_sh l (tm_mt 93) as M r := tm_sound (t := tm_mt 93) tm_Sok_ok tm_CL_ok gg_93 (gm_93 l) (fun _ _ => ⟨rfl, rfl⟩) ck_93 (by decide +kernel) (fun h => by cases h) (fun _ _ _ _ => tm_nos_all (by decide +kernel)) h
def cd_94 : List tm_E := [(0, .aload_n 0, 1, 0, 0, 0), (1, .getfield 31, 3, 11, 14, 2), (4, .bipush 12, 2, 0, 0, 0), (6, .aload_n 0, 1, 0, 0, 0), (7, .getfield 295, 3, 11, 21, 0), (10, .imul, 1, 0, 0, 0), (11, .iload_n 1, 1, 0, 0, 0), (12, .iadd, 1, 0, 0, 0), (13, .iaload, 1, 0, 0, 0), (14, .ireturn, 1, 0, 0, 0)]
def cu_94 : List (Nat × List Nat) := []
def G_94 : tm_G := fun _ _ _ => none
noncomputable def F_94 : List Value → tm_M → Option tm_R := tm_m tm_sh none G_94 false cd_94 cu_94 11 2
theorem gg_94 : tm_Gg G_94 := fun _ _ _ _ h => by cases h
theorem gm_94 (l : Launch) : ∀ id as M r, G_94 id as M = some r → tm_MA tm_sh l (tm_mt id) as M r := fun _ _ _ _ h => by cases h
theorem gr_94 {as : List Value} {M : tm_M} {r : tm_R} (h : F_94 as M = some r) : tm_gr M r.2 := tm_m_gr gg_94 h
theorem ck_94 : tm_cdk (tm_mt 94).1.cls false tm_mt (tm_mt 94) false cd_94 := tm_cdk_of (LK := lk_RX11) (ix := [116, 133]) lc_RX11 (by decide +kernel)
theorem con_94 (l : Launch) {as : List Value} {M : tm_M} {r : tm_R} (h : F_94 as M = some r) : tm_MA tm_sh l (tm_mt 94) as M r := tm_sound (t := tm_mt 94) tm_Sok_ok tm_CL_ok gg_94 (gm_94 l) (fun _ _ => ⟨rfl, rfl⟩) ck_94 (by decide +kernel) (fun h => by cases h) (fun _ _ _ _ => tm_nos_all (by decide +kernel)) h
def cd_95 : List tm_E := [(0, .iload_n 2, 1, 0, 0, 0), (1, .ifCond .eq 24, 3, 25, 0, 0), (4, .iconst 4, 1, 0, 0, 0), (5, .aload_n 0, 1, 0, 0, 0), (6, .getfield 34, 3, 11, 15, 2), (9, .bipush 12, 2, 0, 0, 0), (11, .aload_n 0, 1, 0, 0, 0), (12, .getfield 295, 3, 11, 21, 0), (15, .imul, 1, 0, 0, 0), (16, .iload_n 1, 1, 0, 0, 0), (17, .iadd, 1, 0, 0, 0), (18, .iaload, 1, 0, 0, 0), (19, .isub, 1, 0, 0, 0), (20, .iconst 4, 1, 0, 0, 0), (21, .irem, 1, 0, 0, 0), (22, .goto 17, 3, 39, 0, 0), (25, .aload_n 0, 1, 0, 0, 0), (26, .getfield 34, 3, 11, 15, 2), (29, .bipush 12, 2, 0, 0, 0), (31, .aload_n 0, 1, 0, 0, 0), (32, .getfield 295, 3, 11, 21, 0), (35, .imul, 1, 0, 0, 0), (36, .iload_n 1, 1, 0, 0, 0), (37, .iadd, 1, 0, 0, 0), (38, .iaload, 1, 0, 0, 0), (39, .ireturn, 1, 0, 0, 0)]
def cu_95 : List (Nat × List Nat) := [(39, [])]
def G_95 : tm_G := fun _ _ _ => none
noncomputable def F_95 : List Value → tm_M → Option tm_R := tm_m tm_sh none G_95 false cd_95 cu_95 27 3
theorem gg_95 : tm_Gg G_95 := fun _ _ _ _ h => by cases h
theorem gm_95 (l : Launch) : ∀ id as M r, G_95 id as M = some r → tm_MA tm_sh l (tm_mt id) as M r := fun _ _ _ _ h => by cases h
theorem gr_95 {as : List Value} {M : tm_M} {r : tm_R} (h : F_95 as M = some r) : tm_gr M r.2 := tm_m_gr gg_95 h
theorem ck_95 : tm_cdk (tm_mt 95).1.cls false tm_mt (tm_mt 95) false cd_95 := tm_cdk_of (LK := lk_RX11) (ix := [125, 133, 125, 133]) lc_RX11 (by decide +kernel)
theorem con_95 (l : Launch) {as : List Value} {M : tm_M} {r : tm_R} (h : F_95 as M = some r) : tm_MA tm_sh l (tm_mt 95) as M r := tm_sound (t := tm_mt 95) tm_Sok_ok tm_CL_ok gg_95 (gm_95 l) (fun _ _ => ⟨rfl, rfl⟩) ck_95 (by decide +kernel) (fun h => by cases h) (fun _ _ _ _ => tm_nos_all (by decide +kernel)) h
def cd_96 : List tm_E := [(0, .iload_n 0, 1, 0, 0, 0), (1, .iconst 1, 1, 0, 0, 0), (2, .if_icmp .ne 7, 3, 9, 0, 0), (5, .iconst 2, 1, 0, 0, 0), (6, .goto 13, 3, 19, 0, 0), (9, .iload_n 0, 1, 0, 0, 0), (10, .iconst 2, 1, 0, 0, 0), (11, .if_icmp .ne 7, 3, 18, 0, 0), (14, .iconst 1, 1, 0, 0, 0), (15, .goto 4, 3, 19, 0, 0), (18, .iload_n 0, 1, 0, 0, 0), (19, .ireturn, 1, 0, 0, 0)]
def cu_96 : List (Nat × List Nat) := [(19, [])]
def G_96 : tm_G := fun _ _ _ => none
noncomputable def F_96 : List Value → tm_M → Option tm_R := tm_m tm_sh none G_96 false cd_96 cu_96 13 1
theorem gg_96 : tm_Gg G_96 := fun _ _ _ _ h => by cases h
theorem gm_96 (l : Launch) : ∀ id as M r, G_96 id as M = some r → tm_MA tm_sh l (tm_mt id) as M r := fun _ _ _ _ h => by cases h
theorem gr_96 {as : List Value} {M : tm_M} {r : tm_R} (h : F_96 as M = some r) : tm_gr M r.2 := tm_m_gr gg_96 h
theorem ck_96 : tm_cdk (tm_mt 96).1.cls false tm_mt (tm_mt 96) false cd_96 := tm_cdk_of (LK := lk_RX11) (ix := []) lc_RX11 (by decide +kernel)
theorem con_96 (l : Launch) {as : List Value} {M : tm_M} {r : tm_R} (h : F_96 as M = some r) : tm_MA tm_sh l (tm_mt 96) as M r := tm_sound (t := tm_mt 96) tm_Sok_ok tm_CL_ok gg_96 (gm_96 l) (fun _ _ => ⟨rfl, rfl⟩) ck_96 (by decide +kernel) (fun h => by cases h) (fun _ _ _ _ => tm_nos_all (by decide +kernel)) h
def cd_97 : List tm_E := [(0, .iload_n 2, 1, 0, 0, 0), (1, .ifCond .eq 23, 3, 24, 0, 0), (4, .aload_n 0, 1, 0, 0, 0), (5, .getfield 37, 3, 11, 16, 2), (8, .bipush 12, 2, 0, 0, 0), (10, .aload_n 0, 1, 0, 0, 0), (11, .getfield 295, 3, 11, 21, 0), (14, .imul, 1, 0, 0, 0), (15, .iload_n 1, 1, 0, 0, 0), (16, .iadd, 1, 0, 0, 0), (17, .iaload, 1, 0, 0, 0), (18, .invokestatic 339, 3, 96, 1, 1), (21, .goto 17, 3, 38, 0, 0), (24, .aload_n 0, 1, 0, 0, 0), (25, .getfield 37, 3, 11, 16, 2), (28, .bipush 12, 2, 0, 0, 0), (30, .aload_n 0, 1, 0, 0, 0), (31, .getfield 295, 3, 11, 21, 0), (34, .imul, 1, 0, 0, 0), (35, .iload_n 1, 1, 0, 0, 0), (36, .iadd, 1, 0, 0, 0), (37, .iaload, 1, 0, 0, 0), (38, .ireturn, 1, 0, 0, 0)]
def cu_97 : List (Nat × List Nat) := [(21, []), (38, [])]
noncomputable def G_97 : tm_G := fun id as M => if id = 96 then F_96 as M else none
noncomputable def F_97 : List Value → tm_M → Option tm_R := tm_m tm_sh none G_97 false cd_97 cu_97 24 3
theorem gg_97 : tm_Gg G_97 := by
  intro id as M r h
  unfold G_97 at h
  rcases tm_ite_e h with ⟨_, h⟩ | ⟨_, h⟩
  · exact gr_96 h
  cases h
theorem gm_97 (l : Launch) : ∀ id as M r, G_97 id as M = some r → tm_MA tm_sh l (tm_mt id) as M r := by
  intro id as M r h
  unfold G_97 at h
  rcases tm_ite_e h with ⟨rfl, h⟩ | ⟨_, h⟩
  · exact con_96 l h
  cases h
theorem gr_97 {as : List Value} {M : tm_M} {r : tm_R} (h : F_97 as M = some r) : tm_gr M r.2 := tm_m_gr gg_97 h
theorem ck_97 : tm_cdk (tm_mt 97).1.cls false tm_mt (tm_mt 97) false cd_97 := tm_cdk_of (LK := lk_RX11) (ix := [120, 133, 153, 120, 133]) lc_RX11 (by decide +kernel)
theorem con_97 (l : Launch) {as : List Value} {M : tm_M} {r : tm_R} (h : F_97 as M = some r) : tm_MA tm_sh l (tm_mt 97) as M r := tm_sound (t := tm_mt 97) tm_Sok_ok tm_CL_ok gg_97 (gm_97 l) (fun _ _ => ⟨rfl, rfl⟩) ck_97 (by decide +kernel) (fun h => by cases h) (fun _ _ _ _ => tm_nos_all (by decide +kernel)) h
def cd_98 : List tm_E := [(0, .aload_n 0, 1, 0, 0, 0), (1, .getfield 43, 3, 11, 18, 2), (4, .bipush 32, 2, 0, 0, 0), (6, .bipush 12, 2, 0, 0, 0), (8, .aload_n 0, 1, 0, 0, 0), (9, .getfield 295, 3, 11, 21, 0), (12, .imul, 1, 0, 0, 0), (13, .iload_n 1, 1, 0, 0, 0), (14, .iadd, 1, 0, 0, 0), (15, .imul, 1, 0, 0, 0), (16, .iload_n 3, 1, 0, 0, 0), (17, .iadd, 1, 0, 0, 0), (18, .iaload, 1, 0, 0, 0), (19, .istore 4, 2, 0, 0, 0), (21, .iload_n 2, 1, 0, 0, 0), (22, .ifCond .eq 11, 3, 33, 0, 0), (25, .iload 4, 2, 0, 0, 0), (27, .invokestatic 339, 3, 96, 1, 1), (30, .goto 5, 3, 35, 0, 0), (33, .iload 4, 2, 0, 0, 0), (35, .ireturn, 1, 0, 0, 0)]
def cu_98 : List (Nat × List Nat) := [(30, []), (35, [])]
noncomputable def G_98 : tm_G := fun id as M => if id = 96 then F_96 as M else none
noncomputable def F_98 : List Value → tm_M → Option tm_R := tm_m tm_sh none G_98 false cd_98 cu_98 22 5
theorem gg_98 : tm_Gg G_98 := by
  intro id as M r h
  unfold G_98 at h
  rcases tm_ite_e h with ⟨_, h⟩ | ⟨_, h⟩
  · exact gr_96 h
  cases h
theorem gm_98 (l : Launch) : ∀ id as M r, G_98 id as M = some r → tm_MA tm_sh l (tm_mt id) as M r := by
  intro id as M r h
  unfold G_98 at h
  rcases tm_ite_e h with ⟨rfl, h⟩ | ⟨_, h⟩
  · exact con_96 l h
  cases h
theorem gr_98 {as : List Value} {M : tm_M} {r : tm_R} (h : F_98 as M = some r) : tm_gr M r.2 := tm_m_gr gg_98 h
theorem ck_98 : tm_cdk (tm_mt 98).1.cls false tm_mt (tm_mt 98) false cd_98 := tm_cdk_of (LK := lk_RX11) (ix := [130, 133, 153]) lc_RX11 (by decide +kernel)
theorem con_98 (l : Launch) {as : List Value} {M : tm_M} {r : tm_R} (h : F_98 as M = some r) : tm_MA tm_sh l (tm_mt 98) as M r := tm_sound (t := tm_mt 98) tm_Sok_ok tm_CL_ok gg_98 (gm_98 l) (fun _ _ => ⟨rfl, rfl⟩) ck_98 (by decide +kernel) (fun h => by cases h) (fun _ _ _ _ => tm_nos_all (by decide +kernel)) h
def cd_99 : List tm_E := [(0, .iconst 0, 1, 0, 0, 0), (1, .istore_n 3, 1, 0, 0, 0), (2, .iconst 0, 1, 0, 0, 0), (3, .istore 4, 2, 0, 0, 0), (5, .iload 4, 2, 0, 0, 0), (7, .iconst 4, 1, 0, 0, 0), (8, .aload_n 0, 1, 0, 0, 0), (9, .iload_n 1, 1, 0, 0, 0), (10, .invokevirtual 342, 3, 94, 1, 45), (13, .imul, 1, 0, 0, 0), (14, .if_icmp .ge 33, 3, 47, 0, 0), (17, .aload_n 0, 1, 0, 0, 0), (18, .iload_n 1, 1, 0, 0, 0), (19, .iload_n 2, 1, 0, 0, 0), (20, .iload 4, 2, 0, 0, 0), (22, .invokevirtual 345, 3, 98, 3, 45), (25, .ifCond .eq 14, 3, 39, 0, 0), (28, .aload_n 0, 1, 0, 0, 0), (29, .iload_n 1, 1, 0, 0, 0), (30, .iload_n 2, 1, 0, 0, 0), (31, .iload 4, 2, 0, 0, 0), (33, .invokevirtual 345, 3, 98, 3, 45), (36, .goto 4, 3, 40, 0, 0), (39, .iload_n 3, 1, 0, 0, 0), (40, .istore_n 3, 1, 0, 0, 0), (41, .iinc 4 1, 3, 0, 0, 0), (44, .goto (-39), 3, 5, 0, 0), (47, .iload_n 3, 1, 0, 0, 0), (48, .ireturn, 1, 0, 0, 0)]
def cu_99 : List (Nat × List Nat) := [(5, [0, 1, 2, 3, 4]), (13, [0, 1, 2, 3, 4]), (25, [0, 1, 2, 3, 4]), (36, [0, 1, 2, 4]), (40, [0, 1, 2, 4])]
noncomputable def G_99 : tm_G := fun id as M => if id = 94 then F_94 as M else if id = 98 then F_98 as M else none
noncomputable def F_99 : List Value → tm_M → Option tm_R := tm_m tm_sh none G_99 false cd_99 cu_99 30 5
theorem gg_99 : tm_Gg G_99 := by
  intro id as M r h
  unfold G_99 at h
  rcases tm_ite_e h with ⟨_, h⟩ | ⟨_, h⟩
  · exact gr_94 h
  rcases tm_ite_e h with ⟨_, h⟩ | ⟨_, h⟩
  · exact gr_98 h
  cases h
theorem gm_99 (l : Launch) : ∀ id as M r, G_99 id as M = some r → tm_MA tm_sh l (tm_mt id) as M r := by
  intro id as M r h
  unfold G_99 at h
  rcases tm_ite_e h with ⟨rfl, h⟩ | ⟨_, h⟩
  · exact con_94 l h
  rcases tm_ite_e h with ⟨rfl, h⟩ | ⟨_, h⟩
  · exact con_98 l h
  cases h
theorem gr_99 {as : List Value} {M : tm_M} {r : tm_R} (h : F_99 as M = some r) : tm_gr M r.2 := tm_m_gr gg_99 h
theorem ck_99 : tm_cdk (tm_mt 99).1.cls false tm_mt (tm_mt 99) false cd_99 := tm_cdk_of (LK := lk_RX11) (ix := [154, 155, 155]) lc_RX11 (by decide +kernel)
theorem con_99 (l : Launch) {as : List Value} {M : tm_M} {r : tm_R} (h : F_99 as M = some r) : tm_MA tm_sh l (tm_mt 99) as M r := tm_sound (t := tm_mt 99) tm_Sok_ok tm_CL_ok gg_99 (gm_99 l) (fun _ _ => ⟨rfl, rfl⟩) ck_99 (by decide +kernel) (fun h => by cases h) (fun _ _ _ _ => tm_nos_all (by decide +kernel)) h
