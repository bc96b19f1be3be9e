/-! codes, functions and contracts of methods -/
def cd_39 : List tm_E := [(0, .aload_n 0, 1, 0, 0, 0), (1, .aload_n 1, 1, 0, 0, 0), (2, .getfield 48, 3, 5, 8, 0), (5, .iconst 4, 1, 0, 0, 0), (6, .idiv, 1, 0, 0, 0), (7, .putfield 26, 3, 8, 4, 0), (10, .iconst 0, 1, 0, 0, 0), (11, .istore_n 2, 1, 0, 0, 0), (12, .iload_n 2, 1, 0, 0, 0), (13, .iconst 4, 1, 0, 0, 0), (14, .aload_n 0, 1, 0, 0, 0), (15, .getfield 26, 3, 8, 4, 0), (18, .imul, 1, 0, 0, 0), (19, .if_icmp .ge 26, 3, 45, 0, 0), (22, .iload_n 2, 1, 0, 0, 0), (23, .bipush 32, 2, 0, 0, 0), (25, .if_icmp .ge 20, 3, 45, 0, 0), (28, .aload_n 0, 1, 0, 0, 0), (29, .getfield 11, 3, 8, 0, 2), (32, .iload_n 2, 1, 0, 0, 0), (33, .aload_n 1, 1, 0, 0, 0), (34, .iload_n 2, 1, 0, 0, 0), (35, .invokevirtual 53, 3, 38, 1, 21), (38, .iastore, 1, 0, 0, 0), (39, .iinc 2 1, 3, 0, 0, 0), (42, .goto (-30), 3, 12, 0, 0), (45, .return_, 1, 0, 0, 0)]
def cu_39 : List (Nat × List Nat) := [(12, [0, 1, 2]), (38, [0, 1, 2]), (45, [])]
noncomputable def G_39 : tm_G := fun id as M => if id = 38 then F_38 as M else none
noncomputable def F_39 : List Value → tm_M → Option tm_R := tm_m tm_sh none G_39 false cd_39 cu_39 28 3
theorem gg_39 : tm_Gg G_39 := by
  intro id as M r h
  unfold G_39 at h
  rcases tm_ite_e h with ⟨_, h⟩ | ⟨_, h⟩
  · exact gr_38 h
  cases h
theorem gm_39 (l : Launch) : ∀ id as M r, G_39 id as M = some r → tm_MA tm_sh l (tm_mt id) as M r := by
  intro id as M r h
  unfold G_39 at h
  rcases tm_ite_e h with ⟨rfl, h⟩ | ⟨_, h⟩
  · exact con_38 l h
  cases h
theorem gr_39 {as : List Value} {M : tm_M} {r : tm_R} (h : F_39 as M = some r) : tm_gr M r.2 := tm_m_gr gg_39 h
theorem ck_39 : tm_cdk (tm_mt 39).1.cls false tm_mt (tm_mt 39) false cd_39 := tm_cdk_of (LK := lk_RX8) (ix := [14, 6, 15, 11, 16]) lc_RX8 (by decide +kernel)
theorem con_39 (l : Launch) {as : List Value} {M : tm_M} {r : tm_R} (h : F_39 as M = some r) : tm_MA tm_sh l (tm_mt 39) as M r := tm_sound (t := tm_mt 39) tm_Sok_ok tm_CL_ok gg_39 (gm_39 l) (fun _ _ => ⟨rfl, rfl⟩) ck_39 (by decide +kernel) (fun h => by cases h) (fun _ _ _ _ => tm_nos_all (by decide +kernel)) h
def cd_40 : List tm_E := [(0, .aload_n 1, 1, 0, 0, 0), (1, .getfield 26, 3, 5, 7, 0), (4, .bipush 32, 2, 0, 0, 0), (6, .if_icmp .eq 9, 3, 15, 0, 0), (9, .aload_n 1, 1, 0, 0, 0), (10, .iconst 2, 1, 0, 0, 0), (11, .invokevirtual 38, 3, 30, 1, 21), (14, .ireturn, 1, 0, 0, 0), (15, .aload_n 2, 1, 0, 0, 0), (16, .aload_n 1, 1, 0, 0, 0), (17, .invokevirtual 78, 3, 39, 1, 32), (20, .aload_n 1, 1, 0, 0, 0), (21, .invokevirtual 65, 3, 28, 0, 20), (24, .iconst 1, 1, 0, 0, 0), (25, .ireturn, 1, 0, 0, 0)]
def cu_40 : List (Nat × List Nat) := [(14, []), (20, [1]), (24, [])]
noncomputable def G_40 : tm_G := fun id as M => if id = 30 then F_30 as M else if id = 39 then F_39 as M else if id = 28 then F_28 as M else none
noncomputable def F_40 : List Value → tm_M → Option tm_R := tm_m tm_sh none G_40 true cd_40 cu_40 16 3
theorem gg_40 : tm_Gg G_40 := by
  intro id as M r h
  unfold G_40 at h
  rcases tm_ite_e h with ⟨_, h⟩ | ⟨_, h⟩
  · exact gr_30 h
  rcases tm_ite_e h with ⟨_, h⟩ | ⟨_, h⟩
  · exact gr_39 h
  rcases tm_ite_e h with ⟨_, h⟩ | ⟨_, h⟩
  · exact gr_28 h
  cases h
theorem gm_40 (l : Launch) : ∀ id as M r, G_40 id as M = some r → tm_MA tm_sh l (tm_mt id) as M r := by
  intro id as M r h
  unfold G_40 at h
  rcases tm_ite_e h with ⟨rfl, h⟩ | ⟨_, h⟩
  · exact con_30 l h
  rcases tm_ite_e h with ⟨rfl, h⟩ | ⟨_, h⟩
  · exact con_39 l h
  rcases tm_ite_e h with ⟨rfl, h⟩ | ⟨_, h⟩
  · exact con_28 l h
  cases h
theorem gr_40 {as : List Value} {M : tm_M} {r : tm_R} (h : F_40 as M = some r) : tm_gr M r.2 := tm_m_gr gg_40 h
theorem ck_40 : tm_cdk (tm_mt 40).1.cls false tm_mt (tm_mt 40) true cd_40 := tm_cdk_of (LK := lk_RX0) (ix := [8, 9, 18, 13]) lc_RX0 (by decide +kernel)
theorem con_40 (l : Launch) {as : List Value} {M : tm_M} {r : tm_R} (h : F_40 as M = some r) : tm_MA tm_sh l (tm_mt 40) as M r := tm_sound (t := tm_mt 40) tm_Sok_ok tm_CL_ok gg_40 (gm_40 l) (fun _ _ => ⟨rfl, rfl⟩) ck_40 (by decide +kernel) (fun h => by cases h) (fun _ _ _ _ => tm_nos_all (by decide +kernel)) h
def cd_41 : List tm_E := [(0, .aload_n 1, 1, 0, 0, 0), (1, .iconst 0, 1, 0, 0, 0), (2, .invokevirtual 42, 3, 31, 1, 21), (5, .ifCond .eq 51, 3, 56, 0, 0), (8, .aload_n 0, 1, 0, 0, 0), (9, .aload_n 1, 1, 0, 0, 0), (10, .aload_n 2, 1, 0, 0, 0), (11, .invokevirtual 45, 3, 35, 2, 1), (14, .ifCond .eq 42, 3, 56, 0, 0), (17, .aload_n 0, 1, 0, 0, 0), (18, .aload_n 1, 1, 0, 0, 0), (19, .aload_n 2, 1, 0, 0, 0), (20, .invokevirtual 48, 3, 37, 2, 1), (23, .ifCond .eq 33, 3, 56, 0, 0), (26, .aload_n 1, 1, 0, 0, 0), (27, .bipush 33, 2, 0, 0, 0), (29, .invokevirtual 42, 3, 31, 1, 21), (32, .ifCond .eq 24, 3, 56, 0, 0), (35, .aload_n 1, 1, 0, 0, 0), (36, .iconst 2, 1, 0, 0, 0), (37, .invokevirtual 42, 3, 31, 1, 21), (40, .ifCond .eq 16, 3, 56, 0, 0), (43, .aload_n 0, 1, 0, 0, 0), (44, .aload_n 1, 1, 0, 0, 0), (45, .aload_n 2, 1, 0, 0, 0), (46, .invokevirtual 51, 3, 40, 2, 1), (49, .ifCond .eq 7, 3, 56, 0, 0), (52, .iconst 1, 1, 0, 0, 0), (53, .goto 4, 3, 57, 0, 0), (56, .iconst 0, 1, 0, 0, 0), (57, .ireturn, 1, 0, 0, 0)]
def cu_41 : List (Nat × List Nat) := [(5, [0, 1, 2]), (14, [0, 1, 2]), (23, [0, 1, 2]), (32, [0, 1, 2]), (40, [0, 1, 2]), (49, []), (56, []), (57, [])]
noncomputable def G_41 : tm_G := fun id as M => if id = 31 then F_31 as M else if id = 35 then F_35 as M else if id = 37 then F_37 as M else if id = 40 then F_40 as M else none
noncomputable def F_41 : List Value → tm_M → Option tm_R := tm_m tm_sh none G_41 true cd_41 cu_41 32 3
theorem gg_41 : tm_Gg G_41 := by
  intro id as M r h
  unfold G_41 at h
  rcases tm_ite_e h with ⟨_, h⟩ | ⟨_, h⟩
  · exact gr_31 h
  rcases tm_ite_e h with ⟨_, h⟩ | ⟨_, h⟩
  · exact gr_35 h
  rcases tm_ite_e h with ⟨_, h⟩ | ⟨_, h⟩
  · exact gr_37 h
  rcases tm_ite_e h with ⟨_, h⟩ | ⟨_, h⟩
  · exact gr_40 h
  cases h
theorem gm_41 (l : Launch) : ∀ id as M r, G_41 id as M = some r → tm_MA tm_sh l (tm_mt id) as M r := by
  intro id as M r h
  unfold G_41 at h
  rcases tm_ite_e h with ⟨rfl, h⟩ | ⟨_, h⟩
  · exact con_31 l h
  rcases tm_ite_e h with ⟨rfl, h⟩ | ⟨_, h⟩
  · exact con_35 l h
  rcases tm_ite_e h with ⟨rfl, h⟩ | ⟨_, h⟩
  · exact con_37 l h
  rcases tm_ite_e h with ⟨rfl, h⟩ | ⟨_, h⟩
  · exact con_40 l h
  cases h
theorem gr_41 {as : List Value} {M : tm_M} {r : tm_R} (h : F_41 as M = some r) : tm_gr M r.2 := tm_m_gr gg_41 h
theorem ck_41 : tm_cdk (tm_mt 41).1.cls false tm_mt (tm_mt 41) true cd_41 := tm_cdk_of (LK := lk_RX0) (ix := [14, 19, 20, 14, 14, 21]) lc_RX0 (by decide +kernel)
theorem con_41 (l : Launch) {as : List Value} {M : tm_M} {r : tm_R} (h : F_41 as M = some r) : tm_MA tm_sh l (tm_mt 41) as M r := tm_sound (t := tm_mt 41) tm_Sok_ok tm_CL_ok gg_41 (gm_41 l) (fun _ _ => ⟨rfl, rfl⟩) ck_41 (by decide +kernel) (fun h => by cases h) (fun _ _ _ _ => tm_nos_all (by decide +kernel)) h
def cd_42 : List tm_E := [(0, .iload_n 1, 1, 0, 0, 0), (1, .iconst 0, 1, 0, 0, 0), (2, .invokestatic 57, 3, 9003, 2, 1), (5, .istore 4, 2, 0, 0, 0), (7, .iload 4, 2, 0, 0, 0), (9, .iload_n 2, 1, 0, 0, 0), (10, .if_icmp .gt 39, 3, 49, 0, 0), (13, .iload 4, 2, 0, 0, 0), (15, .aload_n 0, 1, 0, 0, 0), (16, .getfield 15, 3, 8, 1, 2), (19, .arraylength, 1, 0, 0, 0), (20, .if_icmp .ge 29, 3, 49, 0, 0), (23, .aload_n 0, 1, 0, 0, 0), (24, .getfield 15, 3, 8, 1, 2), (27, .iload 4, 2, 0, 0, 0), (29, .iaload, 1, 0, 0, 0), (30, .ifCond .eq 5, 3, 35, 0, 0), (33, .iconst 0, 1, 0, 0, 0), (34, .ireturn, 1, 0, 0, 0), (35, .aload_n 0, 1, 0, 0, 0), (36, .getfield 15, 3, 8, 1, 2), (39, .iload 4, 2, 0, 0, 0), (41, .iload_n 3, 1, 0, 0, 0), (42, .iastore, 1, 0, 0, 0), (43, .iinc 4 1, 3, 0, 0, 0), (46, .goto (-39), 3, 7, 0, 0), (49, .iconst 1, 1, 0, 0, 0), (50, .ireturn, 1, 0, 0, 0)]
def cu_42 : List (Nat × List Nat) := [(7, [0, 2, 3, 4]), (49, [])]
def G_42 : tm_G := fun _ _ _ => none
noncomputable def F_42 : List Value → tm_M → Option tm_R := tm_m tm_sh none G_42 true cd_42 cu_42 29 5
theorem gg_42 : tm_Gg G_42 := fun _ _ _ _ h => by cases h
theorem gm_42 (l : Launch) : ∀ id as M r, G_42 id as M = some r → tm_MA tm_sh l (tm_mt id) as M r := fun _ _ _ _ h => by cases h
theorem gr_42 {as : List Value} {M : tm_M} {r : tm_R} (h : F_42 as M = some r) : tm_gr M r.2 := tm_m_gr gg_42 h
theorem ck_42 : tm_cdk (tm_mt 42).1.cls false tm_mt (tm_mt 42) true cd_42 := tm_cdk_of (LK := lk_RX8) (ix := [17, 13, 13, 13]) lc_RX8 (by decide +kernel)
theorem con_42 (l : Launch) {as : List Value} {M : tm_M} {r : tm_R} (h : F_42 as M = some r) : tm_MA tm_sh l (tm_mt 42) as M r := tm_sound (t := tm_mt 42) tm_Sok_ok tm_CL_ok gg_42 (gm_42 l) (fun _ _ => ⟨rfl, rfl⟩) ck_42 (by decide +kernel) (fun h => by cases h) (fun _ _ _ _ => tm_nos_all (by decide +kernel)) h
def cd_43 : List tm_E := [(0, .aload_n 1, 1, 0, 0, 0), (1, .invokevirtual 65, 3, 28, 0, 20), (4, .aload_n 1, 1, 0, 0, 0), (5, .iload_n 3, 1, 0, 0, 0), (6, .aload_n 2, 1, 0, 0, 0), (7, .getfield 97, 3, 8, 4, 0), (10, .iconst 1, 1, 0, 0, 0), (11, .isub, 1, 0, 0, 0), (12, .invokevirtual 68, 3, 36, 2, 21), (15, .ifCond .ne 5, 3, 20, 0, 0), (18, .iconst 0, 1, 0, 0, 0), (19, .ireturn, 1, 0, 0, 0), (20, .aload_n 2, 1, 0, 0, 0), (21, .iload_n 3, 1, 0, 0, 0), (22, .iconst 1, 1, 0, 0, 0), (23, .iadd, 1, 0, 0, 0), (24, .aload_n 1, 1, 0, 0, 0), (25, .getfield 72, 3, 5, 8, 0), (28, .iload 4, 2, 0, 0, 0), (30, .invokevirtual 100, 3, 42, 3, 33), (33, .ifCond .ne 9, 3, 42, 0, 0), (36, .aload_n 1, 1, 0, 0, 0), (37, .iconst 5, 1, 0, 0, 0), (38, .invokevirtual 38, 3, 30, 1, 21), (41, .ireturn, 1, 0, 0, 0), (42, .aload_n 1, 1, 0, 0, 0), (43, .invokevirtual 65, 3, 28, 0, 20), (46, .iconst 1, 1, 0, 0, 0), (47, .ireturn, 1, 0, 0, 0)]
def cu_43 : List (Nat × List Nat) := [(4, [1, 2, 3, 4]), (15, [1, 2, 3, 4]), (33, [1]), (41, []), (46, [])]
noncomputable def G_43 : tm_G := fun id as M => if id = 28 then F_28 as M else if id = 36 then F_36 as M else if id = 42 then F_42 as M else if id = 30 then F_30 as M else none
noncomputable def F_43 : List Value → tm_M → Option tm_R := tm_m tm_sh none G_43 true cd_43 cu_43 30 5
theorem gg_43 : tm_Gg G_43 := by
  intro id as M r h
  unfold G_43 at h
  rcases tm_ite_e h with ⟨_, h⟩ | ⟨_, h⟩
  · exact gr_28 h
  rcases tm_ite_e h with ⟨_, h⟩ | ⟨_, h⟩
  · exact gr_36 h
  rcases tm_ite_e h with ⟨_, h⟩ | ⟨_, h⟩
  · exact gr_42 h
  rcases tm_ite_e h with ⟨_, h⟩ | ⟨_, h⟩
  · exact gr_30 h
  cases h
theorem gm_43 (l : Launch) : ∀ id as M r, G_43 id as M = some r → tm_MA tm_sh l (tm_mt id) as M r := by
  intro id as M r h
  unfold G_43 at h
  rcases tm_ite_e h with ⟨rfl, h⟩ | ⟨_, h⟩
  · exact con_28 l h
  rcases tm_ite_e h with ⟨rfl, h⟩ | ⟨_, h⟩
  · exact con_36 l h
  rcases tm_ite_e h with ⟨rfl, h⟩ | ⟨_, h⟩
  · exact con_42 l h
  rcases tm_ite_e h with ⟨rfl, h⟩ | ⟨_, h⟩
  · exact con_30 l h
  cases h
theorem gr_43 {as : List Value} {M : tm_M} {r : tm_R} (h : F_43 as M = some r) : tm_gr M r.2 := tm_m_gr gg_43 h
theorem ck_43 : tm_cdk (tm_mt 43).1.cls false tm_mt (tm_mt 43) true cd_43 := tm_cdk_of (LK := lk_RX0) (ix := [13, 22, 15, 16, 23, 9, 13]) lc_RX0 (by decide +kernel)
theorem con_43 (l : Launch) {as : List Value} {M : tm_M} {r : tm_R} (h : F_43 as M = some r) : tm_MA tm_sh l (tm_mt 43) as M r := tm_sound (t := tm_mt 43) tm_Sok_ok tm_CL_ok gg_43 (gm_43 l) (fun _ _ => ⟨rfl, rfl⟩) ck_43 (by decide +kernel) (fun h => by cases h) (fun _ _ _ _ => tm_nos_all (by decide +kernel)) h
def cd_44 : List tm_E := [(0, .iconst 1, 1, 0, 0, 0), (1, .istore_n 3, 1, 0, 0, 0), (2, .aload_n 1, 1, 0, 0, 0), (3, .getfield 26, 3, 5, 7, 0), (6, .iconst 5, 1, 0, 0, 0), (7, .if_icmp .ne 46, 3, 53, 0, 0), (10, .aload_n 1, 1, 0, 0, 0), (11, .invokevirtual 65, 3, 28, 0, 20), (14, .aload_n 1, 1, 0, 0, 0), (15, .getfield 26, 3, 5, 7, 0), (18, .bipush 10, 2, 0, 0, 0), (20, .if_icmp .eq 18, 3, 38, 0, 0), (23, .aload_n 1, 1, 0, 0, 0), (24, .getfield 26, 3, 5, 7, 0), (27, .bipush 11, 2, 0, 0, 0), (29, .if_icmp .eq 9, 3, 38, 0, 0), (32, .aload_n 1, 1, 0, 0, 0), (33, .iconst 2, 1, 0, 0, 0), (34, .invokevirtual 38, 3, 30, 1, 21), (37, .ireturn, 1, 0, 0, 0), (38, .aload_n 1, 1, 0, 0, 0), (39, .getfield 26, 3, 5, 7, 0), (42, .bipush 10, 2, 0, 0, 0), (44, .if_icmp .ne 7, 3, 51, 0, 0), (47, .iconst 2, 1, 0, 0, 0), (48, .goto 4, 3, 52, 0, 0), (51, .iconst 3, 1, 0, 0, 0), (52, .istore_n 3, 1, 0, 0, 0), (53, .aload_n 1, 1, 0, 0, 0), (54, .invokevirtual 65, 3, 28, 0, 20), (57, .aload_n 1, 1, 0, 0, 0), (58, .iconst 0, 1, 0, 0, 0), (59, .aload_n 2, 1, 0, 0, 0), (60, .getfield 97, 3, 8, 4, 0), (63, .iconst 1, 1, 0, 0, 0), (64, .isub, 1, 0, 0, 0), (65, .invokevirtual 68, 3, 36, 2, 21), (68, .ifCond .ne 5, 3, 73, 0, 0), (71, .iconst 0, 1, 0, 0, 0), (72, .ireturn, 1, 0, 0, 0), (73, .aload_n 1, 1, 0, 0, 0), (74, .getfield 72, 3, 5, 8, 0), (77, .istore 4, 2, 0, 0, 0), (79, .aload_n 2, 1, 0, 0, 0), (80, .iload 4, 2, 0, 0, 0), (82, .iload 4, 2, 0, 0, 0), (84, .iload_n 3, 1, 0, 0, 0), (85, .invokevirtual 100, 3, 42, 3, 33), (88, .ifCond .ne 9, 3, 97, 0, 0), (91, .aload_n 1, 1, 0, 0, 0), (92, .iconst 5, 1, 0, 0, 0), (93, .invokevirtual 38, 3, 30, 1, 21), (96, .ireturn, 1, 0, 0, 0), (97, .aload_n 1, 1, 0, 0, 0), (98, .invokevirtual 65, 3, 28, 0, 20), (101, .aload_n 1, 1, 0, 0, 0), (102, .getfield 26, 3, 5, 7, 0), (105, .iconst 4, 1, 0, 0, 0), (106, .if_icmp .ne 15, 3, 121, 0, 0), (109, .aload_n 0, 1, 0, 0, 0), (110, .aload_n 1, 1, 0, 0, 0), (111, .aload_n 2, 1, 0, 0, 0), (112, .iload 4, 2, 0, 0, 0), (114, .iload_n 3, 1, 0, 0, 0), (115, .invokevirtual 104, 3, 43, 4, 1), (118, .ifCond .eq 7, 3, 125, 0, 0), (121, .iconst 1, 1, 0, 0, 0), (122, .goto 4, 3, 126, 0, 0), (125, .iconst 0, 1, 0, 0, 0), (126, .ireturn, 1, 0, 0, 0)]
def cu_44 : List (Nat × List Nat) := [(14, [0, 1, 2]), (37, []), (38, [0, 1, 2]), (52, [0, 1, 2]), (53, [0, 1, 2, 3]), (57, [0, 1, 2, 3]), (68, [0, 1, 2, 3]), (88, [0, 1, 2, 3, 4]), (96, []), (101, [0, 1, 2, 3, 4]), (118, []), (121, []), (126, [])]
noncomputable def G_44 : tm_G := fun id as M => if id = 28 then F_28 as M else if id = 30 then F_30 as M else if id = 36 then F_36 as M else if id = 42 then F_42 as M else if id = 43 then F_43 as M else none
noncomputable def F_44 : List Value → tm_M → Option tm_R := tm_m tm_sh none G_44 true cd_44 cu_44 71 5
theorem gg_44 : tm_Gg G_44 := by
  intro id as M r h
  unfold G_44 at h
  rcases tm_ite_e h with ⟨_, h⟩ | ⟨_, h⟩
  · exact gr_28 h
  rcases tm_ite_e h with ⟨_, h⟩ | ⟨_, h⟩
  · exact gr_30 h
  rcases tm_ite_e h with ⟨_, h⟩ | ⟨_, h⟩
  · exact gr_36 h
  rcases tm_ite_e h with ⟨_, h⟩ | ⟨_, h⟩
  · exact gr_42 h
  rcases tm_ite_e h with ⟨_, h⟩ | ⟨_, h⟩
  · exact gr_43 h
  cases h
theorem gm_44 (l : Launch) : ∀ id as M r, G_44 id as M = some r → tm_MA tm_sh l (tm_mt id) as M r := by
  intro id as M r h
  unfold G_44 at h
  rcases tm_ite_e h with ⟨rfl, h⟩ | ⟨_, h⟩
  · exact con_28 l h
  rcases tm_ite_e h with ⟨rfl, h⟩ | ⟨_, h⟩
  · exact con_30 l h
  rcases tm_ite_e h with ⟨rfl, h⟩ | ⟨_, h⟩
  · exact con_36 l h
  rcases tm_ite_e h with ⟨rfl, h⟩ | ⟨_, h⟩
  · exact con_42 l h
  rcases tm_ite_e h with ⟨rfl, h⟩ | ⟨_, h⟩
  · exact con_43 l h
  cases h
theorem gr_44 {as : List Value} {M : tm_M} {r : tm_R} (h : F_44 as M = some r) : tm_gr M r.2 := tm_m_gr gg_44 h
theorem ck_44 : tm_cdk (tm_mt 44).1.cls false tm_mt (tm_mt 44) true cd_44 := tm_cdk_of (LK := lk_RX0) (ix := [8, 13, 8, 8, 9, 8, 13, 22, 15, 16, 23, 9, 13, 8, 24]) lc_RX0 (by decide +kernel)
theorem con_44 (l : Launch) {as : List Value} {M : tm_M} {r : tm_R} (h : F_44 as M = some r) : tm_MA tm_sh l (tm_mt 44) as M r := tm_sound (t := tm_mt 44) tm_Sok_ok tm_CL_ok gg_44 (gm_44 l) (fun _ _ => ⟨rfl, rfl⟩) ck_44 (by decide +kernel) (fun h => by cases h) (fun _ _ _ _ => tm_nos_all (by decide +kernel)) h
def cd_45 : List tm_E := [(0, .aload_n 2, 1, 0, 0, 0), (1, .getfield 108, 3, 8, 5, 0), (4, .ifCond .eq 9, 3, 13, 0, 0), (7, .aload_n 1, 1, 0, 0, 0), (8, .iconst 2, 1, 0, 0, 0), (9, .invokevirtual 38, 3, 30, 1, 21), (12, .ireturn, 1, 0, 0, 0), (13, .aload_n 1, 1, 0, 0, 0), (14, .invokevirtual 65, 3, 28, 0, 20), (17, .aload_n 1, 1, 0, 0, 0), (18, .iconst 1, 1, 0, 0, 0), (19, .iconst 3, 1, 0, 0, 0), (20, .invokevirtual 68, 3, 36, 2, 21), (23, .ifCond .ne 5, 3, 28, 0, 0), (26, .iconst 0, 1, 0, 0, 0), (27, .ireturn, 1, 0, 0, 0), (28, .aload_n 2, 1, 0, 0, 0), (29, .aload_n 1, 1, 0, 0, 0), (30, .getfield 72, 3, 5, 8, 0), (33, .putfield 108, 3, 8, 5, 0), (36, .aload_n 1, 1, 0, 0, 0), (37, .invokevirtual 65, 3, 28, 0, 20), (40, .iconst 1, 1, 0, 0, 0), (41, .ireturn, 1, 0, 0, 0)]
def cu_45 : List (Nat × List Nat) := [(12, []), (17, [1, 2]), (23, [1, 2]), (40, [])]
noncomputable def G_45 : tm_G := fun id as M => if id = 30 then F_30 as M else if id = 28 then F_28 as M else if id = 36 then F_36 as M else none
noncomputable def F_45 : List Value → tm_M → Option tm_R := tm_m tm_sh none G_45 true cd_45 cu_45 25 3
theorem gg_45 : tm_Gg G_45 := by
  intro id as M r h
  unfold G_45 at h
  rcases tm_ite_e h with ⟨_, h⟩ | ⟨_, h⟩
  · exact gr_30 h
  rcases tm_ite_e h with ⟨_, h⟩ | ⟨_, h⟩
  · exact gr_28 h
  rcases tm_ite_e h with ⟨_, h⟩ | ⟨_, h⟩
  · exact gr_36 h
  cases h
theorem gm_45 (l : Launch) : ∀ id as M r, G_45 id as M = some r → tm_MA tm_sh l (tm_mt id) as M r := by
  intro id as M r h
  unfold G_45 at h
  rcases tm_ite_e h with ⟨rfl, h⟩ | ⟨_, h⟩
  · exact con_30 l h
  rcases tm_ite_e h with ⟨rfl, h⟩ | ⟨_, h⟩
  · exact con_28 l h
  rcases tm_ite_e h with ⟨rfl, h⟩ | ⟨_, h⟩
  · exact con_36 l h
  cases h
theorem gr_45 {as : List Value} {M : tm_M} {r : tm_R} (h : F_45 as M = some r) : tm_gr M r.2 := tm_m_gr gg_45 h
theorem ck_45 : tm_cdk (tm_mt 45).1.cls false tm_mt (tm_mt 45) true cd_45 := tm_cdk_of (LK := lk_RX0) (ix := [25, 9, 13, 15, 16, 26, 13]) lc_RX0 (by decide +kernel)
theorem con_45 (l : Launch) {as : List Value} {M : tm_M} {r : tm_R} (h : F_45 as M = some r) : tm_MA tm_sh l (tm_mt 45) as M r := tm_sound (t := tm_mt 45) tm_Sok_ok tm_CL_ok gg_45 (gm_45 l) (fun _ _ => ⟨rfl, rfl⟩) ck_45 (by decide +kernel) (fun h => by cases h) (fun _ _ _ _ => tm_nos_all (by decide +kernel)) h
def cd_46 : List tm_E := [(0, .aload_n 2, 1, 0, 0, 0), (1, .getfield 111, 3, 8, 6, 0), (4, .ifCond .eq 9, 3, 13, 0, 0), (7, .aload_n 1, 1, 0, 0, 0), (8, .iconst 2, 1, 0, 0, 0), (9, .invokevirtual 38, 3, 30, 1, 21), (12, .ireturn, 1, 0, 0, 0), (13, .aload_n 1, 1, 0, 0, 0), (14, .invokevirtual 65, 3, 28, 0, 20), (17, .aload_n 1, 1, 0, 0, 0), (18, .getfield 26, 3, 5, 7, 0), (21, .tableswitch 51 11 13 #[43, 27, 35], 27, 0, 0, 0), (48, .aload_n 2, 1, 0, 0, 0), (49, .iconst 1, 1, 0, 0, 0), (50, .putfield 111, 3, 8, 6, 0), (53, .goto 25, 3, 78, 0, 0), (56, .aload_n 2, 1, 0, 0, 0), (57, .iconst 2, 1, 0, 0, 0), (58, .putfield 111, 3, 8, 6, 0), (61, .goto 17, 3, 78, 0, 0), (64, .aload_n 2, 1, 0, 0, 0), (65, .iconst 3, 1, 0, 0, 0), (66, .putfield 111, 3, 8, 6, 0), (69, .goto 9, 3, 78, 0, 0), (72, .aload_n 1, 1, 0, 0, 0), (73, .iconst 2, 1, 0, 0, 0), (74, .invokevirtual 38, 3, 30, 1, 21), (77, .ireturn, 1, 0, 0, 0), (78, .aload_n 1, 1, 0, 0, 0), (79, .invokevirtual 65, 3, 28, 0, 20), (82, .iconst 1, 1, 0, 0, 0), (83, .ireturn, 1, 0, 0, 0)]
def cu_46 : List (Nat × List Nat) := [(12, []), (17, [1, 2]), (77, []), (78, [1]), (82, [])]
noncomputable def G_46 : tm_G := fun id as M => if id = 30 then F_30 as M else if id = 28 then F_28 as M else none
noncomputable def F_46 : List Value → tm_M → Option tm_R := tm_m tm_sh none G_46 true cd_46 cu_46 33 3
theorem gg_46 : tm_Gg G_46 := by
  intro id as M r h
  unfold G_46 at h
  rcases tm_ite_e h with ⟨_, h⟩ | ⟨_, h⟩
  · exact gr_30 h
  rcases tm_ite_e h with ⟨_, h⟩ | ⟨_, h⟩
  · exact gr_28 h
  cases h
theorem gm_46 (l : Launch) : ∀ id as M r, G_46 id as M = some r → tm_MA tm_sh l (tm_mt id) as M r := by
  intro id as M r h
  unfold G_46 at h
  rcases tm_ite_e h with ⟨rfl, h⟩ | ⟨_, h⟩
  · exact con_30 l h
  rcases tm_ite_e h with ⟨rfl, h⟩ | ⟨_, h⟩
  · exact con_28 l h
  cases h
theorem gr_46 {as : List Value} {M : tm_M} {r : tm_R} (h : F_46 as M = some r) : tm_gr M r.2 := tm_m_gr gg_46 h
theorem ck_46 : tm_cdk (tm_mt 46).1.cls false tm_mt (tm_mt 46) true cd_46 := tm_cdk_of (LK := lk_RX0) (ix := [27, 9, 13, 8, 28, 28, 28, 9, 13]) lc_RX0 (by decide +kernel)
theorem con_46 (l : Launch) {as : List Value} {M : tm_M} {r : tm_R} (h : F_46 as M = some r) : tm_MA tm_sh l (tm_mt 46) as M r := tm_sound (t := tm_mt 46) tm_Sok_ok tm_CL_ok gg_46 (gm_46 l) (fun _ _ => ⟨rfl, rfl⟩) ck_46 (by decide +kernel) (fun h => by cases h) (fun _ _ _ _ => tm_nos_all (by decide +kernel)) h
def cd_47 : List tm_E := [(0, .aload_n 2, 1, 0, 0, 0), (1, .getfield 114, 3, 8, 7, 0), (4, .iconst (-1), 1, 0, 0, 0), (5, .if_icmp .eq 9, 3, 14, 0, 0), (8, .aload_n 1, 1, 0, 0, 0), (9, .iconst 2, 1, 0, 0, 0), (10, .invokevirtual 38, 3, 30, 1, 21), (13, .ireturn, 1, 0, 0, 0), (14, .aload_n 1, 1, 0, 0, 0), (15, .invokevirtual 65, 3, 28, 0, 20), (18, .aload_n 1, 1, 0, 0, 0), (19, .iconst 0, 1, 0, 0, 0), (20, .iconst 3, 1, 0, 0, 0), (21, .invokevirtual 68, 3, 36, 2, 21), (24, .ifCond .ne 5, 3, 29, 0, 0), (27, .iconst 0, 1, 0, 0, 0), (28, .ireturn, 1, 0, 0, 0), (29, .aload_n 2, 1, 0, 0, 0), (30, .aload_n 1, 1, 0, 0, 0), (31, .getfield 72, 3, 5, 8, 0), (34, .putfield 114, 3, 8, 7, 0), (37, .aload_n 1, 1, 0, 0, 0), (38, .invokevirtual 65, 3, 28, 0, 20), (41, .iconst 1, 1, 0, 0, 0), (42, .ireturn, 1, 0, 0, 0)]
def cu_47 : List (Nat × List Nat) := [(13, []), (18, [1, 2]), (24, [1, 2]), (41, [])]
noncomputable def G_47 : tm_G := fun id as M => if id = 30 then F_30 as M else if id = 28 then F_28 as M else if id = 36 then F_36 as M else none
noncomputable def F_47 : List Value → tm_M → Option tm_R := tm_m tm_sh none G_47 true cd_47 cu_47 26 3
theorem gg_47 : tm_Gg G_47 := by
  intro id as M r h
  unfold G_47 at h
  rcases tm_ite_e h with ⟨_, h⟩ | ⟨_, h⟩
  · exact gr_30 h
  rcases tm_ite_e h with ⟨_, h⟩ | ⟨_, h⟩
  · exact gr_28 h
  rcases tm_ite_e h with ⟨_, h⟩ | ⟨_, h⟩
  · exact gr_36 h
  cases h
theorem gm_47 (l : Launch) : ∀ id as M r, G_47 id as M = some r → tm_MA tm_sh l (tm_mt id) as M r := by
  intro id as M r h
  unfold G_47 at h
  rcases tm_ite_e h with ⟨rfl, h⟩ | ⟨_, h⟩
  · exact con_30 l h
  rcases tm_ite_e h with ⟨rfl, h⟩ | ⟨_, h⟩
  · exact con_28 l h
  rcases tm_ite_e h with ⟨rfl, h⟩ | ⟨_, h⟩
  · exact con_36 l h
  cases h
theorem gr_47 {as : List Value} {M : tm_M} {r : tm_R} (h : F_47 as M = some r) : tm_gr M r.2 := tm_m_gr gg_47 h
theorem ck_47 : tm_cdk (tm_mt 47).1.cls false tm_mt (tm_mt 47) true cd_47 := tm_cdk_of (LK := lk_RX0) (ix := [29, 9, 13, 15, 16, 30, 13]) lc_RX0 (by decide +kernel)
theorem con_47 (l : Launch) {as : List Value} {M : tm_M} {r : tm_R} (h : F_47 as M = some r) : tm_MA tm_sh l (tm_mt 47) as M r := tm_sound (t := tm_mt 47) tm_Sok_ok tm_CL_ok gg_47 (gm_47 l) (fun _ _ => ⟨rfl, rfl⟩) ck_47 (by decide +kernel) (fun h => by cases h) (fun _ _ _ _ => tm_nos_all (by decide +kernel)) h
def cd_48 : List tm_E := [(0, .aload_n 2, 1, 0, 0, 0), (1, .getfield 117, 3, 8, 8, 0), (4, .ifCond .eq 9, 3, 13, 0, 0), (7, .aload_n 1, 1, 0, 0, 0), (8, .iconst 2, 1, 0, 0, 0), (9, .invokevirtual 38, 3, 30, 1, 21), (12, .ireturn, 1, 0, 0, 0), (13, .aload_n 1, 1, 0, 0, 0), (14, .invokevirtual 65, 3, 28, 0, 20), (17, .aload_n 2, 1, 0, 0, 0), (18, .iconst 1, 1, 0, 0, 0), (19, .putfield 117, 3, 8, 8, 3), (22, .iconst 1, 1, 0, 0, 0), (23, .ireturn, 1, 0, 0, 0)]
def cu_48 : List (Nat × List Nat) := [(12, []), (17, [2])]
noncomputable def G_48 : tm_G := fun id as M => if id = 30 then F_30 as M else if id = 28 then F_28 as M else none
noncomputable def F_48 : List Value → tm_M → Option tm_R := tm_m tm_sh none G_48 true cd_48 cu_48 15 3
theorem gg_48 : tm_Gg G_48 := by
  intro id as M r h
  unfold G_48 at h
  rcases tm_ite_e h with ⟨_, h⟩ | ⟨_, h⟩
  · exact gr_30 h
  rcases tm_ite_e h with ⟨_, h⟩ | ⟨_, h⟩
  · exact gr_28 h
  cases h
theorem gm_48 (l : Launch) : ∀ id as M r, G_48 id as M = some r → tm_MA tm_sh l (tm_mt id) as M r := by
  intro id as M r h
  unfold G_48 at h
  rcases tm_ite_e h with ⟨rfl, h⟩ | ⟨_, h⟩
  · exact con_30 l h
  rcases tm_ite_e h with ⟨rfl, h⟩ | ⟨_, h⟩
  · exact con_28 l h
  cases h
theorem gr_48 {as : List Value} {M : tm_M} {r : tm_R} (h : F_48 as M = some r) : tm_gr M r.2 := tm_m_gr gg_48 h
theorem ck_48 : tm_cdk (tm_mt 48).1.cls false tm_mt (tm_mt 48) true cd_48 := tm_cdk_of (LK := lk_RX0) (ix := [31, 9, 13, 32]) lc_RX0 (by decide +kernel)
theorem con_48 (l : Launch) {as : List Value} {M : tm_M} {r : tm_R} (h : F_48 as M = some r) : tm_MA tm_sh l (tm_mt 48) as M r := tm_sound (t := tm_mt 48) tm_Sok_ok tm_CL_ok gg_48 (gm_48 l) (fun _ _ => ⟨rfl, rfl⟩) ck_48 (by decide +kernel) (fun h => by cases h) (fun _ _ _ _ => tm_nos_all (by decide +kernel)) h
def cd_49 : List tm_E := [(0, .iconst 1, 1, 0, 0, 0), (1, .istore_n 3, 1, 0, 0, 0), (2, .iconst 0, 1, 0, 0, 0), (3, .istore 4, 2, 0, 0, 0), (5, .iload 4, 2, 0, 0, 0), (7, .sipush 1400, 3, 0, 0, 0), (10, .if_icmp .ge 124, 3, 134, 0, 0), (13, .iload_n 3, 1, 0, 0, 0), (14, .ifCond .eq 120, 3, 134, 0, 0), (17, .aload_n 1, 1, 0, 0, 0), (18, .getfield 26, 3, 5, 7, 0), (21, .bipush 34, 2, 0, 0, 0), (23, .if_icmp .eq 111, 3, 134, 0, 0), (26, .aload_n 1, 1, 0, 0, 0), (27, .getfield 26, 3, 5, 7, 0), (30, .tableswitch 92 3 9 #[42, 92, 42, 52, 62, 72, 82], 42, 0, 0, 0), (72, .aload_n 0, 1, 0, 0, 0), (73, .aload_n 1, 1, 0, 0, 0), (74, .aload_n 2, 1, 0, 0, 0), (75, .invokevirtual 82, 3, 44, 2, 1), (78, .istore_n 3, 1, 0, 0, 0), (79, .goto 49, 3, 128, 0, 0), (82, .aload_n 0, 1, 0, 0, 0), (83, .aload_n 1, 1, 0, 0, 0), (84, .aload_n 2, 1, 0, 0, 0), (85, .invokevirtual 85, 3, 45, 2, 1), (88, .istore_n 3, 1, 0, 0, 0), (89, .goto 39, 3, 128, 0, 0), (92, .aload_n 0, 1, 0, 0, 0), (93, .aload_n 1, 1, 0, 0, 0), (94, .aload_n 2, 1, 0, 0, 0), (95, .invokevirtual 88, 3, 46, 2, 1), (98, .istore_n 3, 1, 0, 0, 0), (99, .goto 29, 3, 128, 0, 0), (102, .aload_n 0, 1, 0, 0, 0), (103, .aload_n 1, 1, 0, 0, 0), (104, .aload_n 2, 1, 0, 0, 0), (105, .invokevirtual 91, 3, 47, 2, 1), (108, .istore_n 3, 1, 0, 0, 0), (109, .goto 19, 3, 128, 0, 0), (112, .aload_n 0, 1, 0, 0, 0), (113, .aload_n 1, 1, 0, 0, 0), (114, .aload_n 2, 1, 0, 0, 0), (115, .invokevirtual 94, 3, 48, 2, 1), (118, .istore_n 3, 1, 0, 0, 0), (119, .goto 9, 3, 128, 0, 0), (122, .aload_n 1, 1, 0, 0, 0), (123, .iconst 2, 1, 0, 0, 0), (124, .invokevirtual 38, 3, 30, 1, 21), (127, .istore_n 3, 1, 0, 0, 0), (128, .iinc 4 1, 3, 0, 0, 0), (131, .goto (-126), 3, 5, 0, 0), (134, .iload_n 3, 1, 0, 0, 0), (135, .ifCond .eq 16, 3, 151, 0, 0), (138, .aload_n 1, 1, 0, 0, 0), (139, .bipush 34, 2, 0, 0, 0), (141, .invokevirtual 42, 3, 31, 1, 21), (144, .ifCond .eq 7, 3, 151, 0, 0), (147, .iconst 1, 1, 0, 0, 0), (148, .goto 4, 3, 152, 0, 0), (151, .iconst 0, 1, 0, 0, 0), (152, .ireturn, 1, 0, 0, 0)]
def cu_49 : List (Nat × List Nat) := [(5, [0, 1, 2, 3, 4]), (78, [0, 1, 2, 4]), (88, [0, 1, 2, 4]), (98, [0, 1, 2, 4]), (108, [0, 1, 2, 4]), (118, [0, 1, 2, 4]), (127, [0, 1, 2, 4]), (128, [0, 1, 2, 3, 4]), (134, [1, 3]), (144, []), (151, []), (152, [])]
noncomputable def G_49 : tm_G := fun id as M => if id = 44 then F_44 as M else if id = 45 then F_45 as M else if id = 46 then F_46 as M else if id = 47 then F_47 as M else if id = 48 then F_48 as M else if id = 30 then F_30 as M else if id = 31 then F_31 as M else none
noncomputable def F_49 : List Value → tm_M → Option tm_R := tm_m tm_sh none G_49 true cd_49 cu_49 63 5
theorem gg_49 : tm_Gg G_49 := by
  intro id as M r h
  unfold G_49 at h
  rcases tm_ite_e h with ⟨_, h⟩ | ⟨_, h⟩
  · exact gr_44 h
  rcases tm_ite_e h with ⟨_, h⟩ | ⟨_, h⟩
  · exact gr_45 h
  rcases tm_ite_e h with ⟨_, h⟩ | ⟨_, h⟩
  · exact gr_46 h
  rcases tm_ite_e h with ⟨_, h⟩ | ⟨_, h⟩
  · exact gr_47 h
  rcases tm_ite_e h with ⟨_, h⟩ | ⟨_, h⟩
  · exact gr_48 h
  rcases tm_ite_e h with ⟨_, h⟩ | ⟨_, h⟩
  · exact gr_30 h
  rcases tm_ite_e h with ⟨_, h⟩ | ⟨_, h⟩
  · exact gr_31 h
  cases h
theorem gm_49 (l : Launch) : ∀ id as M r, G_49 id as M = some r → tm_MA tm_sh l (tm_mt id) as M r := by
  intro id as M r h
  unfold G_49 at h
  rcases tm_ite_e h with ⟨rfl, h⟩ | ⟨_, h⟩
  · exact con_44 l h
  rcases tm_ite_e h with ⟨rfl, h⟩ | ⟨_, h⟩
  · exact con_45 l h
  rcases tm_ite_e h with ⟨rfl, h⟩ | ⟨_, h⟩
  · exact con_46 l h
  rcases tm_ite_e h with ⟨rfl, h⟩ | ⟨_, h⟩
  · exact con_47 l h
  rcases tm_ite_e h with ⟨rfl, h⟩ | ⟨_, h⟩
  · exact con_48 l h
  rcases tm_ite_e h with ⟨rfl, h⟩ | ⟨_, h⟩
  · exact con_30 l h
  rcases tm_ite_e h with ⟨rfl, h⟩ | ⟨_, h⟩
  · exact con_31 l h
  cases h
theorem gr_49 {as : List Value} {M : tm_M} {r : tm_R} (h : F_49 as M = some r) : tm_gr M r.2 := tm_m_gr gg_49 h
theorem ck_49 : tm_cdk (tm_mt 49).1.cls false tm_mt (tm_mt 49) true cd_49 := tm_cdk_of (LK := lk_RX0) (ix := [8, 8, 33, 34, 35, 36, 37, 9, 14]) lc_RX0 (by decide +kernel)
theorem con_49 (l : Launch) {as : List Value} {M : tm_M} {r : tm_R} (h : F_49 as M = some r) : tm_MA tm_sh l (tm_mt 49) as M r := tm_sound (t := tm_mt 49) tm_Sok_ok tm_CL_ok gg_49 (gm_49 l) (fun _ _ => ⟨rfl, rfl⟩) ck_49 (by decide +kernel) (fun h => by cases h) (fun _ _ _ _ => tm_nos_all (by decide +kernel)) h
def cd_50 : List tm_E := [(0, .aload_n 0, 1, 0, 0, 0), (1, .iconst 0, 1, 0, 0, 0), (2, .putfield 18, 3, 0, 1, 0), (5, .aload_n 0, 1, 0, 0, 0), (6, .getfield 18, 3, 0, 1, 0), (9, .bipush 12, 2, 0, 0, 0), (11, .if_icmp .ge 59, 3, 70, 0, 0), (14, .aload_n 1, 1, 0, 0, 0), (15, .getfield 26, 3, 5, 7, 0), (18, .ifCond .ne 52, 3, 70, 0, 0), (21, .aload_n 0, 1, 0, 0, 0), (22, .aload_n 1, 1, 0, 0, 0), (23, .aload_n 0, 1, 0, 0, 0), (24, .getfield 13, 3, 0, 0, 2), (27, .aload_n 0, 1, 0, 0, 0), (28, .getfield 18, 3, 0, 1, 0), (31, .aaload, 1, 0, 0, 0), (32, .invokevirtual 31, 3, 41, 2, 1), (35, .ifCond .eq 20, 3, 55, 0, 0), (38, .aload_n 0, 1, 0, 0, 0), (39, .aload_n 1, 1, 0, 0, 0), (40, .aload_n 0, 1, 0, 0, 0), (41, .getfield 13, 3, 0, 0, 2), (44, .aload_n 0, 1, 0, 0, 0), (45, .getfield 18, 3, 0, 1, 0), (48, .aaload, 1, 0, 0, 0), (49, .invokevirtual 35, 3, 49, 2, 1), (52, .ifCond .ne 5, 3, 57, 0, 0), (55, .iconst 0, 1, 0, 0, 0), (56, .ireturn, 1, 0, 0, 0), (57, .aload_n 0, 1, 0, 0, 0), (58, .dup, 1, 0, 0, 0), (59, .getfield 18, 3, 0, 1, 0), (62, .iconst 1, 1, 0, 0, 0), (63, .iadd, 1, 0, 0, 0), (64, .putfield 18, 3, 0, 1, 0), (67, .goto (-62), 3, 5, 0, 0), (70, .aload_n 1, 1, 0, 0, 0), (71, .getfield 26, 3, 5, 7, 0), (74, .bipush 35, 2, 0, 0, 0), (76, .if_icmp .eq 11, 3, 87, 0, 0), (79, .aload_n 1, 1, 0, 0, 0), (80, .iconst 2, 1, 0, 0, 0), (81, .invokevirtual 38, 3, 30, 1, 21), (84, .ifCond .eq 7, 3, 91, 0, 0), (87, .iconst 1, 1, 0, 0, 0), (88, .goto 4, 3, 92, 0, 0), (91, .iconst 0, 1, 0, 0, 0), (92, .ireturn, 1, 0, 0, 0)]
def cu_50 : List (Nat × List Nat) := [(5, [0, 1]), (35, [0, 1]), (52, [0, 1]), (55, []), (70, [1]), (84, []), (87, []), (92, [])]
noncomputable def G_50 : tm_G := fun id as M => if id = 41 then F_41 as M else if id = 49 then F_49 as M else if id = 30 then F_30 as M else none
noncomputable def F_50 : List Value → tm_M → Option tm_R := tm_m tm_sh none G_50 true cd_50 cu_50 50 2
theorem gg_50 : tm_Gg G_50 := by
  intro id as M r h
  unfold G_50 at h
  rcases tm_ite_e h with ⟨_, h⟩ | ⟨_, h⟩
  · exact gr_41 h
  rcases tm_ite_e h with ⟨_, h⟩ | ⟨_, h⟩
  · exact gr_49 h
  rcases tm_ite_e h with ⟨_, h⟩ | ⟨_, h⟩
  · exact gr_30 h
  cases h
theorem gm_50 (l : Launch) : ∀ id as M r, G_50 id as M = some r → tm_MA tm_sh l (tm_mt id) as M r := by
  intro id as M r h
  unfold G_50 at h
  rcases tm_ite_e h with ⟨rfl, h⟩ | ⟨_, h⟩
  · exact con_41 l h
  rcases tm_ite_e h with ⟨rfl, h⟩ | ⟨_, h⟩
  · exact con_49 l h
  rcases tm_ite_e h with ⟨rfl, h⟩ | ⟨_, h⟩
  · exact con_30 l h
  cases h
theorem gr_50 {as : List Value} {M : tm_M} {r : tm_R} (h : F_50 as M = some r) : tm_gr M r.2 := tm_m_gr gg_50 h
theorem ck_50 : tm_cdk (tm_mt 50).1.cls false tm_mt (tm_mt 50) true cd_50 := tm_cdk_of (LK := lk_RX0) (ix := [38, 6, 8, 3, 6, 39, 3, 6, 40, 6, 38, 8, 9]) lc_RX0 (by decide +kernel)
theorem con_50 (l : Launch) {as : List Value} {M : tm_M} {r : tm_R} (h : F_50 as M = some r) : tm_MA tm_sh l (tm_mt 50) as M r := tm_sound (t := tm_mt 50) tm_Sok_ok tm_CL_ok gg_50 (gm_50 l) (fun _ _ => ⟨rfl, rfl⟩) ck_50 (by decide +kernel) (fun h => by cases h) (fun _ _ _ _ => tm_nos_all (by decide +kernel)) h
def cd_51 : List tm_E := [(0, .aload_n 0, 1, 0, 0, 0), (1, .iconst 0, 1, 0, 0, 0), (2, .putfield 40, 3, 1, 10, 0), (5, .aload_n 0, 1, 0, 0, 0), (6, .iconst (-1), 1, 0, 0, 0), (7, .putfield 36, 3, 1, 9, 0), (10, .return_, 1, 0, 0, 0)]
def cu_51 : List (Nat × List Nat) := []
def G_51 : tm_G := fun _ _ _ => none
noncomputable def F_51 : List Value → tm_M → Option tm_R := tm_m tm_sh none G_51 false cd_51 cu_51 8 1
theorem gg_51 : tm_Gg G_51 := fun _ _ _ _ h => by cases h
theorem gm_51 (l : Launch) : ∀ id as M r, G_51 id as M = some r → tm_MA tm_sh l (tm_mt id) as M r := fun _ _ _ _ h => by cases h
theorem gr_51 {as : List Value} {M : tm_M} {r : tm_R} (h : F_51 as M = some r) : tm_gr M r.2 := tm_m_gr gg_51 h
theorem ck_51 : tm_cdk (tm_mt 51).1.cls false tm_mt (tm_mt 51) false cd_51 := tm_cdk_of (LK := lk_RX1) (ix := [11, 10]) lc_RX1 (by decide +kernel)
theorem con_51 (l : Launch) {as : List Value} {M : tm_M} {r : tm_R} (h : F_51 as M = some r) : tm_MA tm_sh l (tm_mt 51) as M r := tm_sound (t := tm_mt 51) tm_Sok_ok tm_CL_ok gg_51 (gm_51 l) (fun _ _ => ⟨rfl, rfl⟩) ck_51 (by decide +kernel) (fun h => by cases h) (fun _ _ _ _ => tm_nos_all (by decide +kernel)) h
def cd_52 : List tm_E := [(0, .aload_n 0, 1, 0, 0, 0), (1, .iconst 0, 1, 0, 0, 0), (2, .putfield 29, 3, 4, 5, 3), (5, .aload_n 0, 1, 0, 0, 0), (6, .iconst 0, 1, 0, 0, 0), (7, .putfield 33, 3, 4, 6, 0), (10, .return_, 1, 0, 0, 0)]
def cu_52 : List (Nat × List Nat) := []
def G_52 : tm_G := fun _ _ _ => none
noncomputable def F_52 : List Value → tm_M → Option tm_R := tm_m tm_sh none G_52 false cd_52 cu_52 8 1
theorem gg_52 : tm_Gg G_52 := fun _ _ _ _ h => by cases h
theorem gm_52 (l : Launch) : ∀ id as M r, G_52 id as M = some r → tm_MA tm_sh l (tm_mt id) as M r := fun _ _ _ _ h => by cases h
theorem gr_52 {as : List Value} {M : tm_M} {r : tm_R} (h : F_52 as M = some r) : tm_gr M r.2 := tm_m_gr gg_52 h
theorem ck_52 : tm_cdk (tm_mt 52).1.cls false tm_mt (tm_mt 52) false cd_52 := tm_cdk_of (LK := lk_RX4) (ix := [7, 8]) lc_RX4 (by decide +kernel)
theorem con_52 (l : Launch) {as : List Value} {M : tm_M} {r : tm_R} (h : F_52 as M = some r) : tm_MA tm_sh l (tm_mt 52) as M r := tm_sound (t := tm_mt 52) tm_Sok_ok tm_CL_ok gg_52 (gm_52 l) (fun _ _ => ⟨rfl, rfl⟩) ck_52 (by decide +kernel) (fun h => by cases h) (fun _ _ _ _ => tm_nos_all (by decide +kernel)) h
def cd_53 : List tm_E := [(0, .aload_n 0, 1, 0, 0, 0), (1, .getfield 16, 3, 10, 1, 2), (4, .aload_n 0, 1, 0, 0, 0), (5, .getfield 9, 3, 10, 0, 2), (8, .aload_n 0, 1, 0, 0, 0), (9, .invokevirtual 82, 3, 19, 0, 41), (12, .invokevirtual 86, 3, 29, 2, 20), (15, .aload_n 0, 1, 0, 0, 0), (16, .getfield 55, 3, 10, 7, 2), (19, .aload_n 0, 1, 0, 0, 0), (20, .getfield 16, 3, 10, 1, 2), (23, .invokevirtual 90, 3, 50, 1, 1), (26, .ifCond .ne 5, 3, 31, 0, 0), (29, .iconst (-1), 1, 0, 0, 0), (30, .ireturn, 1, 0, 0, 0), (31, .aload_n 0, 1, 0, 0, 0), (32, .getfield 55, 3, 10, 7, 2), (35, .astore_n 1, 1, 0, 0, 0), (36, .aload_n 0, 1, 0, 0, 0), (37, .aload_n 0, 1, 0, 0, 0), (38, .getfield 51, 3, 10, 6, 2), (41, .putfield 55, 3, 10, 7, 2), (44, .aload_n 0, 1, 0, 0, 0), (45, .aload_n 1, 1, 0, 0, 0), (46, .putfield 51, 3, 10, 6, 2), (49, .aload_n 0, 1, 0, 0, 0), (50, .getfield 30, 3, 10, 3, 2), (53, .invokevirtual 94, 3, 51, 0, 4), (56, .aload_n 0, 1, 0, 0, 0), (57, .iconst 0, 1, 0, 0, 0), (58, .putfield 97, 3, 10, 10, 3), (61, .aload_n 0, 1, 0, 0, 0), (62, .getfield 23, 3, 10, 2, 2), (65, .getfield 101, 3, 9, 0, 2), (68, .invokevirtual 105, 3, 52, 0, 16), (71, .aload_n 0, 1, 0, 0, 0), (72, .getfield 51, 3, 10, 6, 2), (75, .getfield 108, 3, 0, 1, 0), (78, .ireturn, 1, 0, 0, 0)]
def cu_53 : List (Nat × List Nat) := [(12, [0]), (15, [0]), (26, [0]), (56, [0]), (71, [0])]
noncomputable def G_53 : tm_G := fun id as M => if id = 19 then F_19 as M else if id = 29 then F_29 as M else if id = 50 then F_50 as M else if id = 51 then F_51 as M else if id = 52 then F_52 as M else none
noncomputable def F_53 : List Value → tm_M → Option tm_R := tm_m tm_sh none G_53 false cd_53 cu_53 40 2
theorem gg_53 : tm_Gg G_53 := by
  intro id as M r h
  unfold G_53 at h
  rcases tm_ite_e h with ⟨_, h⟩ | ⟨_, h⟩
  · exact gr_19 h
  rcases tm_ite_e h with ⟨_, h⟩ | ⟨_, h⟩
  · exact gr_29 h
  rcases tm_ite_e h with ⟨_, h⟩ | ⟨_, h⟩
  · exact gr_50 h
  rcases tm_ite_e h with ⟨_, h⟩ | ⟨_, h⟩
  · exact gr_51 h
  rcases tm_ite_e h with ⟨_, h⟩ | ⟨_, h⟩
  · exact gr_52 h
  cases h
theorem gm_53 (l : Launch) : ∀ id as M r, G_53 id as M = some r → tm_MA tm_sh l (tm_mt id) as M r := by
  intro id as M r h
  unfold G_53 at h
  rcases tm_ite_e h with ⟨rfl, h⟩ | ⟨_, h⟩
  · exact con_19 l h
  rcases tm_ite_e h with ⟨rfl, h⟩ | ⟨_, h⟩
  · exact con_29 l h
  rcases tm_ite_e h with ⟨rfl, h⟩ | ⟨_, h⟩
  · exact con_50 l h
  rcases tm_ite_e h with ⟨rfl, h⟩ | ⟨_, h⟩
  · exact con_51 l h
  rcases tm_ite_e h with ⟨rfl, h⟩ | ⟨_, h⟩
  · exact con_52 l h
  cases h
theorem gr_53 {as : List Value} {M : tm_M} {r : tm_R} (h : F_53 as M = some r) : tm_gr M r.2 := tm_m_gr gg_53 h
theorem ck_53 : tm_cdk (tm_mt 53).1.cls false tm_mt (tm_mt 53) false cd_53 := tm_cdk_of (LK := lk_RX10) (ix := [32, 28, 33, 34, 35, 32, 36, 35, 37, 21, 20, 38, 39, 40, 41, 42, 43, 37, 44]) lc_RX10 (by decide +kernel)
theorem con_53 (l : Launch) {as : List Value} {M : tm_M} {r : tm_R} (h : F_53 as M = some r) : tm_MA tm_sh l (tm_mt 53) as M r := tm_sound (t := tm_mt 53) tm_Sok_ok tm_CL_ok gg_53 (gm_53 l) (fun _ _ => ⟨rfl, rfl⟩) ck_53 (by decide +kernel) (fun h => by cases h) (fun _ _ _ _ => tm_nos_all (by decide +kernel)) h
def cd_54 : List tm_E := [(0, .aload_n 0, 1, 0, 0, 0), (1, .iconst 0, 1, 0, 0, 0), (2, .putfield 189, 3, 11, 4, 0), (5, .aload_n 0, 1, 0, 0, 0), (6, .iconst (-1), 1, 0, 0, 0), (7, .putfield 16, 3, 11, 5, 0), (10, .aload_n 0, 1, 0, 0, 0), (11, .aload_n 0, 1, 0, 0, 0), (12, .getfield 289, 3, 11, 2, 0), (15, .putfield 186, 3, 11, 3, 0), (18, .iconst 0, 1, 0, 0, 0), (19, .istore_n 1, 1, 0, 0, 0), (20, .iload_n 1, 1, 0, 0, 0), (21, .aload_n 0, 1, 0, 0, 0), (22, .getfield 186, 3, 11, 3, 0), (25, .if_icmp .ge 21, 3, 46, 0, 0), (28, .aload_n 0, 1, 0, 0, 0), (29, .getfield 13, 3, 11, 1, 2), (32, .iload_n 1, 1, 0, 0, 0), (33, .aload_n 0, 1, 0, 0, 0), (34, .getfield 7, 3, 11, 0, 2), (37, .iload_n 1, 1, 0, 0, 0), (38, .baload, 1, 0, 0, 0), (39, .bastore, 1, 0, 0, 0), (40, .iinc 1 1, 3, 0, 0, 0), (43, .goto (-23), 3, 20, 0, 0), (46, .aload_n 0, 1, 0, 0, 0), (47, .iconst 0, 1, 0, 0, 0), (48, .putfield 289, 3, 11, 2, 0), (51, .aload_n 0, 1, 0, 0, 0), (52, .iconst 0, 1, 0, 0, 0), (53, .putfield 238, 3, 11, 7, 0), (56, .return_, 1, 0, 0, 0)]
def cu_54 : List (Nat × List Nat) := [(20, [0, 1])]
def G_54 : tm_G := fun _ _ _ => none
noncomputable def F_54 : List Value → tm_M → Option tm_R := tm_m tm_sh none G_54 false cd_54 cu_54 34 2
theorem gg_54 : tm_Gg G_54 := fun _ _ _ _ h => by cases h
theorem gm_54 (l : Launch) : ∀ id as M r, G_54 id as M = some r → tm_MA tm_sh l (tm_mt id) as M r := fun _ _ _ _ h => by cases h
theorem gr_54 {as : List Value} {M : tm_M} {r : tm_R} (h : F_54 as M = some r) : tm_gr M r.2 := tm_m_gr gg_54 h
theorem ck_54 : tm_cdk (tm_mt 54).1.cls false tm_mt (tm_mt 54) false cd_54 := tm_cdk_of (LK := lk_RX11) (ix := [66, 4, 63, 67, 68, 69, 64, 65, 70]) lc_RX11 (by decide +kernel)
theorem con_54 (l : Launch) {as : List Value} {M : tm_M} {r : tm_R} (h : F_54 as M = some r) : tm_MA tm_sh l (tm_mt 54) as M r := tm_sound (t := tm_mt 54) tm_Sok_ok tm_CL_ok gg_54 (gm_54 l) (fun _ _ => ⟨rfl, rfl⟩) ck_54 (by decide +kernel) (fun h => by cases h) (fun _ _ _ _ => tm_nos_all (by decide +kernel)) h
def cd_55 : List tm_E := [(0, .iload_n 1, 1, 0, 0, 0), (1, .aload_n 0, 1, 0, 0, 0), (2, .getfield 186, 3, 11, 3, 0), (5, .if_icmp .ge 16, 3, 21, 0, 0), (8, .aload_n 0, 1, 0, 0, 0), (9, .getfield 13, 3, 11, 1, 2), (12, .iload_n 1, 1, 0, 0, 0), (13, .baload, 1, 0, 0, 0), (14, .sipush 255, 3, 0, 0, 0), (17, .iand, 1, 0, 0, 0), (18, .goto 4, 3, 22, 0, 0), (21, .iconst 0, 1, 0, 0, 0), (22, .ireturn, 1, 0, 0, 0)]
def cu_55 : List (Nat × List Nat) := [(22, [])]
def G_55 : tm_G := fun _ _ _ => none
noncomputable def F_55 : List Value → tm_M → Option tm_R := tm_m tm_sh none G_55 false cd_55 cu_55 14 2
theorem gg_55 : tm_Gg G_55 := fun _ _ _ _ h => by cases h
theorem gm_55 (l : Launch) : ∀ id as M r, G_55 id as M = some r → tm_MA tm_sh l (tm_mt id) as M r := fun _ _ _ _ h => by cases h
theorem gr_55 {as : List Value} {M : tm_M} {r : tm_R} (h : F_55 as M = some r) : tm_gr M r.2 := tm_m_gr gg_55 h
theorem ck_55 : tm_cdk (tm_mt 55).1.cls false tm_mt (tm_mt 55) false cd_55 := tm_cdk_of (LK := lk_RX11) (ix := [68, 69]) lc_RX11 (by decide +kernel)
theorem con_55 (l : Launch) {as : List Value} {M : tm_M} {r : tm_R} (h : F_55 as M = some r) : tm_MA tm_sh l (tm_mt 55) as M r := tm_sound (t := tm_mt 55) tm_Sok_ok tm_CL_ok gg_55 (gm_55 l) (fun _ _ => ⟨rfl, rfl⟩) ck_55 (by decide +kernel) (fun h => by cases h) (fun _ _ _ _ => tm_nos_all (by decide +kernel)) h
def cd_56 : List tm_E := [(0, .iload_n 0, 1, 0, 0, 0), (1, .bipush 97, 2, 0, 0, 0), (3, .if_icmp .lt 13, 3, 16, 0, 0), (6, .iload_n 0, 1, 0, 0, 0), (7, .bipush 122, 2, 0, 0, 0), (9, .if_icmp .gt 7, 3, 16, 0, 0), (12, .iconst 1, 1, 0, 0, 0), (13, .goto 4, 3, 17, 0, 0), (16, .iconst 0, 1, 0, 0, 0), (17, .ireturn, 1, 0, 0, 0)]
def cu_56 : List (Nat × List Nat) := [(16, []), (17, [])]
def G_56 : tm_G := fun _ _ _ => none
noncomputable def F_56 : List Value → tm_M → Option tm_R := tm_m tm_sh none G_56 true cd_56 cu_56 11 1
theorem gg_56 : tm_Gg G_56 := fun _ _ _ _ h => by cases h
theorem gm_56 (l : Launch) : ∀ id as M r, G_56 id as M = some r → tm_MA tm_sh l (tm_mt id) as M r := fun _ _ _ _ h => by cases h
theorem gr_56 {as : List Value} {M : tm_M} {r : tm_R} (h : F_56 as M = some r) : tm_gr M r.2 := tm_m_gr gg_56 h
theorem ck_56 : tm_cdk (tm_mt 56).1.cls false tm_mt (tm_mt 56) true cd_56 := tm_cdk_of (LK := lk_RX11) (ix := []) lc_RX11 (by decide +kernel)
theorem con_56 (l : Launch) {as : List Value} {M : tm_M} {r : tm_R} (h : F_56 as M = some r) : tm_MA tm_sh l (tm_mt 56) as M r := tm_sound (t := tm_mt 56) tm_Sok_ok tm_CL_ok gg_56 (gm_56 l) (fun _ _ => ⟨rfl, rfl⟩) ck_56 (by decide +kernel) (fun h => by cases h) (fun _ _ _ _ => tm_nos_all (by decide +kernel)) h
def cd_57 : List tm_E := [(0, .lload_n 0, 1, 0, 0, 0), (1, .ldc2_w 192, 3, 500135715691, 0, 0), (4, .lcmp, 1, 0, 0, 0), (5, .ifCond .eq 107, 3, 112, 0, 0), (8, .lload_n 0, 1, 0, 0, 0), (9, .ldc2_w 194, 3, 512970880104, 0, 0), (12, .lcmp, 1, 0, 0, 0), (13, .ifCond .eq 99, 3, 112, 0, 0), (16, .lload_n 0, 1, 0, 0, 0), (17, .ldc2_w 196, 3, 1717921140, 0, 0), (20, .lcmp, 1, 0, 0, 0), (21, .ifCond .eq 91, 3, 112, 0, 0), (24, .lload_n 0, 1, 0, 0, 0), (25, .ldc2_w 198, 3, 427121668979, 0, 0), (28, .lcmp, 1, 0, 0, 0), (29, .ifCond .eq 83, 3, 112, 0, 0), (32, .lload_n 0, 1, 0, 0, 0), (33, .ldc2_w 200, 3, 29807, 0, 0), (36, .lcmp, 1, 0, 0, 0), (37, .ifCond .eq 75, 3, 112, 0, 0), (40, .lload_n 0, 1, 0, 0, 0), (41, .ldc2_w 202, 3, 7300710, 0, 0), (44, .lcmp, 1, 0, 0, 0), (45, .ifCond .eq 67, 3, 112, 0, 0), (48, .lload_n 0, 1, 0, 0, 0), (49, .ldc2_w 204, 3, 1953854062, 0, 0), (52, .lcmp, 1, 0, 0, 0), (53, .ifCond .eq 59, 3, 112, 0, 0), (56, .lload_n 0, 1, 0, 0, 0), (57, .ldc2_w 206, 3, 1718775661, 0, 0), (60, .lcmp, 1, 0, 0, 0), (61, .ifCond .eq 51, 3, 112, 0, 0), (64, .lload_n 0, 1, 0, 0, 0), (65, .ldc2_w 208, 3, 112568465714791, 0, 0), (68, .lcmp, 1, 0, 0, 0), (69, .ifCond .eq 43, 3, 112, 0, 0), (72, .lload_n 0, 1, 0, 0, 0), (73, .ldc2_w 210, 3, 418431069797, 0, 0), (76, .lcmp, 1, 0, 0, 0), (77, .ifCond .eq 35, 3, 112, 0, 0), (80, .lload_n 0, 1, 0, 0, 0), (81, .ldc2_w 212, 3, 97, 0, 0), (84, .lcmp, 1, 0, 0, 0), (85, .ifCond .eq 27, 3, 112, 0, 0), (88, .lload_n 0, 1, 0, 0, 0), (89, .ldc2_w 214, 3, 98, 0, 0), (92, .lcmp, 1, 0, 0, 0), (93, .ifCond .eq 19, 3, 112, 0, 0), (96, .lload_n 0, 1, 0, 0, 0), (97, .ldc2_w 216, 3, 108, 0, 0), (100, .lcmp, 1, 0, 0, 0), (101, .ifCond .eq 11, 3, 112, 0, 0), (104, .lload_n 0, 1, 0, 0, 0), (105, .ldc2_w 218, 3, 114, 0, 0), (108, .lcmp, 1, 0, 0, 0), (109, .ifCond .ne 7, 3, 116, 0, 0), (112, .iconst 1, 1, 0, 0, 0), (113, .goto 4, 3, 117, 0, 0), (116, .iconst 0, 1, 0, 0, 0), (117, .istore_n 2, 1, 0, 0, 0), (118, .iload_n 2, 1, 0, 0, 0), (119, .ifCond .ne 75, 3, 194, 0, 0), (122, .lload_n 0, 1, 0, 0, 0), (123, .ldc2_w 220, 3, 422607680627, 0, 0), (126, .lcmp, 1, 0, 0, 0), (127, .ifCond .eq 67, 3, 194, 0, 0), (130, .lload_n 0, 1, 0, 0, 0), (131, .ldc2_w 222, 3, 24948, 0, 0), (134, .lcmp, 1, 0, 0, 0), (135, .ifCond .eq 59, 3, 194, 0, 0), (138, .lload_n 0, 1, 0, 0, 0), (139, .ldc2_w 224, 3, 26990, 0, 0), (142, .lcmp, 1, 0, 0, 0), (143, .ifCond .eq 51, 3, 194, 0, 0), (146, .lload_n 0, 1, 0, 0, 0), (147, .ldc2_w 226, 3, 7304564, 0, 0), (150, .lcmp, 1, 0, 0, 0), (151, .ifCond .eq 43, 3, 194, 0, 0), (154, .lload_n 0, 1, 0, 0, 0), (155, .ldc2_w 228, 3, 1685022067, 0, 0), (158, .lcmp, 1, 0, 0, 0), (159, .ifCond .eq 35, 3, 194, 0, 0), (162, .lload_n 0, 1, 0, 0, 0), (163, .ldc2_w 230, 3, 7883958458510370148, 0, 0), (166, .lcmp, 1, 0, 0, 0), (167, .ifCond .eq 27, 3, 194, 0, 0), (170, .lload_n 0, 1, 0, 0, 0), (171, .ldc2_w 232, 3, 499850634611, 0, 0), (174, .lcmp, 1, 0, 0, 0), (175, .ifCond .eq 19, 3, 194, 0, 0), (178, .lload_n 0, 1, 0, 0, 0), (179, .ldc2_w 234, 3, 1818584692, 0, 0), (182, .lcmp, 1, 0, 0, 0), (183, .ifCond .eq 11, 3, 194, 0, 0), (186, .lload_n 0, 1, 0, 0, 0), (187, .ldc2_w 236, 3, 491394656372, 0, 0), (190, .lcmp, 1, 0, 0, 0), (191, .ifCond .ne 7, 3, 198, 0, 0), (194, .iconst 1, 1, 0, 0, 0), (195, .goto 4, 3, 199, 0, 0), (198, .iconst 0, 1, 0, 0, 0), (199, .ireturn, 1, 0, 0, 0)]
def cu_57 : List (Nat × List Nat) := [(112, [0]), (117, [0]), (194, []), (199, [])]
def G_57 : tm_G := fun _ _ _ => none
noncomputable def F_57 : List Value → tm_M → Option tm_R := tm_m tm_sh none G_57 true cd_57 cu_57 103 3
theorem gg_57 : tm_Gg G_57 := fun _ _ _ _ h => by cases h
theorem gm_57 (l : Launch) : ∀ id as M r, G_57 id as M = some r → tm_MA tm_sh l (tm_mt id) as M r := fun _ _ _ _ h => by cases h
theorem gr_57 {as : List Value} {M : tm_M} {r : tm_R} (h : F_57 as M = some r) : tm_gr M r.2 := tm_m_gr gg_57 h
theorem ck_57 : tm_cdk (tm_mt 57).1.cls false tm_mt (tm_mt 57) true cd_57 := tm_cdk_of (LK := lk_RX11) (ix := [71, 72, 73, 74, 75, 76, 77, 78, 79, 80, 81, 82, 83, 84, 85, 86, 87, 88, 89, 90, 91, 92, 93]) lc_RX11 (by decide +kernel)
theorem con_57 (l : Launch) {as : List Value} {M : tm_M} {r : tm_R} (h : F_57 as M = some r) : tm_MA tm_sh l (tm_mt 57) as M r := tm_sound (t := tm_mt 57) tm_Sok_ok tm_CL_ok gg_57 (gm_57 l) (fun _ _ => ⟨rfl, rfl⟩) ck_57 (by decide +kernel) (fun h => by cases h) (fun _ _ _ _ => tm_nos_all (by decide +kernel)) h
def cd_58 : List tm_E := [(0, .iload_n 0, 1, 0, 0, 0), (1, .bipush 48, 2, 0, 0, 0), (3, .if_icmp .lt 13, 3, 16, 0, 0), (6, .iload_n 0, 1, 0, 0, 0), (7, .bipush 57, 2, 0, 0, 0), (9, .if_icmp .gt 7, 3, 16, 0, 0), (12, .iconst 1, 1, 0, 0, 0), (13, .goto 4, 3, 17, 0, 0), (16, .iconst 0, 1, 0, 0, 0), (17, .ireturn, 1, 0, 0, 0)]
def cu_58 : List (Nat × List Nat) := [(16, []), (17, [])]
def G_58 : tm_G := fun _ _ _ => none
noncomputable def F_58 : List Value → tm_M → Option tm_R := tm_m tm_sh none G_58 true cd_58 cu_58 11 1
theorem gg_58 : tm_Gg G_58 := fun _ _ _ _ h => by cases h
theorem gm_58 (l : Launch) : ∀ id as M r, G_58 id as M = some r → tm_MA tm_sh l (tm_mt id) as M r := fun _ _ _ _ h => by cases h
theorem gr_58 {as : List Value} {M : tm_M} {r : tm_R} (h : F_58 as M = some r) : tm_gr M r.2 := tm_m_gr gg_58 h
theorem ck_58 : tm_cdk (tm_mt 58).1.cls false tm_mt (tm_mt 58) true cd_58 := tm_cdk_of (LK := lk_RX11) (ix := []) lc_RX11 (by decide +kernel)
theorem con_58 (l : Launch) {as : List Value} {M : tm_M} {r : tm_R} (h : F_58 as M = some r) : tm_MA tm_sh l (tm_mt 58) as M r := tm_sound (t := tm_mt 58) tm_Sok_ok tm_CL_ok gg_58 (gm_58 l) (fun _ _ => ⟨rfl, rfl⟩) ck_58 (by decide +kernel) (fun h => by cases h) (fun _ _ _ _ => tm_nos_all (by decide +kernel)) h
def cd_59 : List tm_E := [(0, .iload_n 0, 1, 0, 0, 0), (1, .bipush 45, 2, 0, 0, 0), (3, .if_icmp .ne 7, 3, 10, 0, 0), (6, .iconst 0, 1, 0, 0, 0), (7, .goto 34, 3, 41, 0, 0), (10, .iload_n 0, 1, 0, 0, 0), (11, .bipush 108, 2, 0, 0, 0), (13, .if_icmp .ne 7, 3, 20, 0, 0), (16, .iconst 1, 1, 0, 0, 0), (17, .goto 24, 3, 41, 0, 0), (20, .iload_n 0, 1, 0, 0, 0), (21, .bipush 114, 2, 0, 0, 0), (23, .if_icmp .ne 7, 3, 30, 0, 0), (26, .iconst 2, 1, 0, 0, 0), (27, .goto 14, 3, 41, 0, 0), (30, .iload_n 0, 1, 0, 0, 0), (31, .bipush 98, 2, 0, 0, 0), (33, .if_icmp .ne 7, 3, 40, 0, 0), (36, .iconst 3, 1, 0, 0, 0), (37, .goto 4, 3, 41, 0, 0), (40, .iconst (-1), 1, 0, 0, 0), (41, .ireturn, 1, 0, 0, 0)]
def cu_59 : List (Nat × List Nat) := [(41, [])]
def G_59 : tm_G := fun _ _ _ => none
noncomputable def F_59 : List Value → tm_M → Option tm_R := tm_m tm_sh none G_59 false cd_59 cu_59 23 1
theorem gg_59 : tm_Gg G_59 := fun _ _ _ _ h => by cases h
theorem gm_59 (l : Launch) : ∀ id as M r, G_59 id as M = some r → tm_MA tm_sh l (tm_mt id) as M r := fun _ _ _ _ h => by cases h
theorem gr_59 {as : List Value} {M : tm_M} {r : tm_R} (h : F_59 as M = some r) : tm_gr M r.2 := tm_m_gr gg_59 h
theorem ck_59 : tm_cdk (tm_mt 59).1.cls false tm_mt (tm_mt 59) false cd_59 := tm_cdk_of (LK := lk_RX11) (ix := []) lc_RX11 (by decide +kernel)
theorem con_59 (l : Launch) {as : List Value} {M : tm_M} {r : tm_R} (h : F_59 as M = some r) : tm_MA tm_sh l (tm_mt 59) as M r := tm_sound (t := tm_mt 59) tm_Sok_ok tm_CL_ok gg_59 (gm_59 l) (fun _ _ => ⟨rfl, rfl⟩) ck_59 (by decide +kernel) (fun h => by cases h) (fun _ _ _ _ => tm_nos_all (by decide +kernel)) h
def cd_60 : List tm_E := [(0, .aload_n 0, 1, 0, 0, 0), (1, .aload_n 0, 1, 0, 0, 0), (2, .getfield 238, 3, 11, 7, 0), (5, .putfield 241, 3, 11, 6, 0), (8, .aload_n 0, 1, 0, 0, 0), (9, .getfield 241, 3, 11, 6, 0), (12, .aload_n 0, 1, 0, 0, 0), (13, .getfield 186, 3, 11, 3, 0), (16, .if_icmp .ge 42, 3, 58, 0, 0), (19, .aload_n 0, 1, 0, 0, 0), (20, .aload_n 0, 1, 0, 0, 0), (21, .getfield 241, 3, 11, 6, 0), (24, .invokevirtual 244, 3, 55, 1, 45), (27, .bipush 32, 2, 0, 0, 0), (29, .if_icmp .eq 16, 3, 45, 0, 0), (32, .aload_n 0, 1, 0, 0, 0), (33, .aload_n 0, 1, 0, 0, 0), (34, .getfield 241, 3, 11, 6, 0), (37, .invokevirtual 244, 3, 55, 1, 45), (40, .bipush 10, 2, 0, 0, 0), (42, .if_icmp .ne 16, 3, 58, 0, 0), (45, .aload_n 0, 1, 0, 0, 0), (46, .dup, 1, 0, 0, 0), (47, .getfield 241, 3, 11, 6, 0), (50, .iconst 1, 1, 0, 0, 0), (51, .iadd, 1, 0, 0, 0), (52, .putfield 241, 3, 11, 6, 0), (55, .goto (-47), 3, 8, 0, 0), (58, .aload_n 0, 1, 0, 0, 0), (59, .aload_n 0, 1, 0, 0, 0), (60, .getfield 241, 3, 11, 6, 0), (63, .invokevirtual 244, 3, 55, 1, 45), (66, .istore_n 1, 1, 0, 0, 0), (67, .aload_n 0, 1, 0, 0, 0), (68, .aload_n 0, 1, 0, 0, 0), (69, .getfield 241, 3, 11, 6, 0), (72, .iconst 1, 1, 0, 0, 0), (73, .iadd, 1, 0, 0, 0), (74, .putfield 238, 3, 11, 7, 0), (77, .aload_n 0, 1, 0, 0, 0), (78, .getfield 241, 3, 11, 6, 0), (81, .aload_n 0, 1, 0, 0, 0), (82, .getfield 186, 3, 11, 3, 0), (85, .if_icmp .lt 27, 3, 112, 0, 0), (88, .aload_n 0, 1, 0, 0, 0), (89, .iconst 0, 1, 0, 0, 0), (90, .putfield 248, 3, 11, 8, 0), (93, .aload_n 0, 1, 0, 0, 0), (94, .aload_n 0, 1, 0, 0, 0), (95, .getfield 186, 3, 11, 3, 0), (98, .putfield 241, 3, 11, 6, 0), (101, .aload_n 0, 1, 0, 0, 0), (102, .aload_n 0, 1, 0, 0, 0), (103, .getfield 186, 3, 11, 3, 0), (106, .putfield 238, 3, 11, 7, 0), (109, .goto 382, 3, 491, 0, 0), (112, .iload_n 1, 1, 0, 0, 0), (113, .invokestatic 251, 3, 56, 1, 1), (116, .ifCond .eq 123, 3, 239, 0, 0), (119, .aload_n 0, 1, 0, 0, 0), (120, .aload_n 0, 1, 0, 0, 0), (121, .getfield 238, 3, 11, 7, 0), (124, .invokevirtual 244, 3, 55, 1, 45), (127, .invokestatic 251, 3, 56, 1, 1), (130, .ifCond .eq 16, 3, 146, 0, 0), (133, .aload_n 0, 1, 0, 0, 0), (134, .dup, 1, 0, 0, 0), (135, .getfield 238, 3, 11, 7, 0), (138, .iconst 1, 1, 0, 0, 0), (139, .iadd, 1, 0, 0, 0), (140, .putfield 238, 3, 11, 7, 0), (143, .goto (-24), 3, 119, 0, 0), (146, .aload_n 0, 1, 0, 0, 0), (147, .lconst 0, 1, 0, 0, 0), (148, .putfield 255, 3, 11, 10, 1), (151, .aload_n 0, 1, 0, 0, 0), (152, .getfield 241, 3, 11, 6, 0), (155, .istore_n 2, 1, 0, 0, 0), (156, .iload_n 2, 1, 0, 0, 0), (157, .aload_n 0, 1, 0, 0, 0), (158, .getfield 238, 3, 11, 7, 0), (161, .if_icmp .ge 38, 3, 199, 0, 0), (164, .iload_n 2, 1, 0, 0, 0), (165, .aload_n 0, 1, 0, 0, 0), (166, .getfield 241, 3, 11, 6, 0), (169, .bipush 8, 2, 0, 0, 0), (171, .iadd, 1, 0, 0, 0), (172, .if_icmp .ge 27, 3, 199, 0, 0), (175, .aload_n 0, 1, 0, 0, 0), (176, .aload_n 0, 1, 0, 0, 0), (177, .getfield 255, 3, 11, 10, 1), (180, .bipush 8, 2, 0, 0, 0), (182, .lshl, 1, 0, 0, 0), (183, .aload_n 0, 1, 0, 0, 0), (184, .iload_n 2, 1, 0, 0, 0), (185, .invokevirtual 244, 3, 55, 1, 45), (188, .i2l, 1, 0, 0, 0), (189, .lor, 1, 0, 0, 0), (190, .putfield 255, 3, 11, 10, 1), (193, .iinc 2 1, 3, 0, 0, 0), (196, .goto (-40), 3, 156, 0, 0), (199, .aload_n 0, 1, 0, 0, 0), (200, .aload_n 0, 1, 0, 0, 0), (201, .getfield 238, 3, 11, 7, 0), (204, .aload_n 0, 1, 0, 0, 0), (205, .getfield 241, 3, 11, 6, 0), (208, .isub, 1, 0, 0, 0), (209, .bipush 8, 2, 0, 0, 0), (211, .if_icmp .le 7, 3, 218, 0, 0), (214, .iconst 1, 1, 0, 0, 0), (215, .goto 18, 3, 233, 0, 0), (218, .aload_n 0, 1, 0, 0, 0), (219, .getfield 255, 3, 11, 10, 1), (222, .invokestatic 259, 3, 57, 1, 1), (225, .ifCond .eq 7, 3, 232, 0, 0), (228, .iconst 3, 1, 0, 0, 0), (229, .goto 4, 3, 233, 0, 0), (232, .iconst 2, 1, 0, 0, 0), (233, .putfield 248, 3, 11, 8, 0), (236, .goto 255, 3, 491, 0, 0), (239, .iload_n 1, 1, 0, 0, 0), (240, .invokestatic 263, 3, 58, 1, 1), (243, .ifCond .eq 118, 3, 361, 0, 0), (246, .aload_n 0, 1, 0, 0, 0), (247, .iconst 0, 1, 0, 0, 0), (248, .putfield 266, 3, 11, 9, 0), (251, .aload_n 0, 1, 0, 0, 0), (252, .aload_n 0, 1, 0, 0, 0), (253, .getfield 241, 3, 11, 6, 0), (256, .putfield 238, 3, 11, 7, 0), (259, .aload_n 0, 1, 0, 0, 0), (260, .aload_n 0, 1, 0, 0, 0), (261, .getfield 238, 3, 11, 7, 0), (264, .invokevirtual 244, 3, 55, 1, 45), (267, .invokestatic 263, 3, 58, 1, 1), (270, .ifCond .eq 52, 3, 322, 0, 0), (273, .aload_n 0, 1, 0, 0, 0), (274, .getfield 238, 3, 11, 7, 0), (277, .aload_n 0, 1, 0, 0, 0), (278, .getfield 241, 3, 11, 6, 0), (281, .isub, 1, 0, 0, 0), (282, .iconst 3, 1, 0, 0, 0), (283, .if_icmp .ge 26, 3, 309, 0, 0), (286, .aload_n 0, 1, 0, 0, 0), (287, .bipush 10, 2, 0, 0, 0), (289, .aload_n 0, 1, 0, 0, 0), (290, .getfield 266, 3, 11, 9, 0), (293, .imul, 1, 0, 0, 0), (294, .aload_n 0, 1, 0, 0, 0), (295, .aload_n 0, 1, 0, 0, 0), (296, .getfield 238, 3, 11, 7, 0), (299, .invokevirtual 244, 3, 55, 1, 45), (302, .iadd, 1, 0, 0, 0), (303, .bipush 48, 2, 0, 0, 0), (305, .isub, 1, 0, 0, 0), (306, .putfield 266, 3, 11, 9, 0), (309, .aload_n 0, 1, 0, 0, 0), (310, .dup, 1, 0, 0, 0), (311, .getfield 238, 3, 11, 7, 0), (314, .iconst 1, 1, 0, 0, 0), (315, .iadd, 1, 0, 0, 0), (316, .putfield 238, 3, 11, 7, 0), (319, .goto (-60), 3, 259, 0, 0), (322, .aload_n 0, 1, 0, 0, 0), (323, .aload_n 0, 1, 0, 0, 0), (324, .getfield 238, 3, 11, 7, 0), (327, .aload_n 0, 1, 0, 0, 0), (328, .getfield 241, 3, 11, 6, 0), (331, .isub, 1, 0, 0, 0), (332, .iconst 3, 1, 0, 0, 0), (333, .if_icmp .gt 17, 3, 350, 0, 0), (336, .aload_n 0, 1, 0, 0, 0), (337, .aload_n 0, 1, 0, 0, 0), (338, .getfield 238, 3, 11, 7, 0), (341, .invokevirtual 244, 3, 55, 1, 45), (344, .invokestatic 251, 3, 56, 1, 1), (347, .ifCond .eq 7, 3, 354, 0, 0), (350, .iconst 1, 1, 0, 0, 0), (351, .goto 4, 3, 355, 0, 0), (354, .iconst 4, 1, 0, 0, 0), (355, .putfield 248, 3, 11, 8, 0), (358, .goto 133, 3, 491, 0, 0), (361, .iload_n 1, 1, 0, 0, 0), (362, .bipush 34, 2, 0, 0, 0), (364, .if_icmp .ne 105, 3, 469, 0, 0), (367, .aload_n 0, 1, 0, 0, 0), (368, .aload_n 0, 1, 0, 0, 0), (369, .getfield 238, 3, 11, 7, 0), (372, .invokevirtual 244, 3, 55, 1, 45), (375, .invokestatic 269, 3, 59, 1, 1), (378, .ifCond .lt 27, 3, 405, 0, 0), (381, .aload_n 0, 1, 0, 0, 0), (382, .getfield 238, 3, 11, 7, 0), (385, .aload_n 0, 1, 0, 0, 0), (386, .getfield 186, 3, 11, 3, 0), (389, .if_icmp .ge 16, 3, 405, 0, 0), (392, .aload_n 0, 1, 0, 0, 0), (393, .dup, 1, 0, 0, 0), (394, .getfield 238, 3, 11, 7, 0), (397, .iconst 1, 1, 0, 0, 0), (398, .iadd, 1, 0, 0, 0), (399, .putfield 238, 3, 11, 7, 0), (402, .goto (-35), 3, 367, 0, 0), (405, .aload_n 0, 1, 0, 0, 0), (406, .getfield 238, 3, 11, 7, 0), (409, .aload_n 0, 1, 0, 0, 0), (410, .getfield 241, 3, 11, 6, 0), (413, .isub, 1, 0, 0, 0), (414, .iconst 1, 1, 0, 0, 0), (415, .isub, 1, 0, 0, 0), (416, .istore_n 2, 1, 0, 0, 0), (417, .aload_n 0, 1, 0, 0, 0), (418, .aload_n 0, 1, 0, 0, 0), (419, .aload_n 0, 1, 0, 0, 0), (420, .getfield 238, 3, 11, 7, 0), (423, .invokevirtual 244, 3, 55, 1, 45), (426, .bipush 34, 2, 0, 0, 0), (428, .if_icmp .ne 24, 3, 452, 0, 0), (431, .iload_n 2, 1, 0, 0, 0), (432, .iconst 4, 1, 0, 0, 0), (433, .if_icmp .lt 19, 3, 452, 0, 0), (436, .iload_n 2, 1, 0, 0, 0), (437, .bipush 32, 2, 0, 0, 0), (439, .if_icmp .gt 13, 3, 452, 0, 0), (442, .iload_n 2, 1, 0, 0, 0), (443, .iconst 4, 1, 0, 0, 0), (444, .irem, 1, 0, 0, 0), (445, .ifCond .ne 7, 3, 452, 0, 0), (448, .iconst 5, 1, 0, 0, 0), (449, .goto 4, 3, 453, 0, 0), (452, .iconst 1, 1, 0, 0, 0), (453, .putfield 248, 3, 11, 8, 0), (456, .aload_n 0, 1, 0, 0, 0), (457, .dup, 1, 0, 0, 0), (458, .getfield 238, 3, 11, 7, 0), (461, .iconst 1, 1, 0, 0, 0), (462, .iadd, 1, 0, 0, 0), (463, .putfield 238, 3, 11, 7, 0), (466, .goto 25, 3, 491, 0, 0), (469, .aload_n 0, 1, 0, 0, 0), (470, .iload_n 1, 1, 0, 0, 0), (471, .bipush 58, 2, 0, 0, 0), (473, .if_icmp .eq 9, 3, 482, 0, 0), (476, .iload_n 1, 1, 0, 0, 0), (477, .bipush 59, 2, 0, 0, 0), (479, .if_icmp .ne 8, 3, 487, 0, 0), (482, .bipush 6, 2, 0, 0, 0), (484, .goto 4, 3, 488, 0, 0), (487, .iconst 1, 1, 0, 0, 0), (488, .putfield 248, 3, 11, 8, 0), (491, .return_, 1, 0, 0, 0)]
def cu_60 : List (Nat × List Nat) := [(8, [0]), (27, [0]), (40, [0]), (45, [0]), (58, [0]), (66, [0]), (116, [0, 1]), (119, [0]), (127, [0]), (130, [0]), (156, [0, 2]), (188, [0, 2]), (199, [0]), (225, []), (233, []), (243, [0, 1]), (259, [0]), (267, [0]), (270, [0]), (302, [0]), (309, [0]), (344, []), (347, []), (350, []), (355, []), (367, [0]), (375, [0]), (378, [0]), (405, [0]), (426, [0, 2]), (452, [0]), (453, [0]), (482, []), (488, []), (491, [])]
noncomputable def G_60 : tm_G := fun id as M => if id = 55 then F_55 as M else if id = 56 then F_56 as M else if id = 57 then F_57 as M else if id = 58 then F_58 as M else if id = 59 then F_59 as M else none
noncomputable def F_60 : List Value → tm_M → Option tm_R := tm_m tm_sh none G_60 false cd_60 cu_60 252 3
theorem gg_60 : tm_Gg G_60 := by
  intro id as M r h
  unfold G_60 at h
  rcases tm_ite_e h with ⟨_, h⟩ | ⟨_, h⟩
  · exact gr_55 h
  rcases tm_ite_e h with ⟨_, h⟩ | ⟨_, h⟩
  · exact gr_56 h
  rcases tm_ite_e h with ⟨_, h⟩ | ⟨_, h⟩
  · exact gr_57 h
  rcases tm_ite_e h with ⟨_, h⟩ | ⟨_, h⟩
  · exact gr_58 h
  rcases tm_ite_e h with ⟨_, h⟩ | ⟨_, h⟩
  · exact gr_59 h
  cases h
theorem gm_60 (l : Launch) : ∀ id as M r, G_60 id as M = some r → tm_MA tm_sh l (tm_mt id) as M r := by
  intro id as M r h
  unfold G_60 at h
  rcases tm_ite_e h with ⟨rfl, h⟩ | ⟨_, h⟩
  · exact con_55 l h
  rcases tm_ite_e h with ⟨rfl, h⟩ | ⟨_, h⟩
  · exact con_56 l h
  rcases tm_ite_e h with ⟨rfl, h⟩ | ⟨_, h⟩
  · exact con_57 l h
  rcases tm_ite_e h with ⟨rfl, h⟩ | ⟨_, h⟩
  · exact con_58 l h
  rcases tm_ite_e h with ⟨rfl, h⟩ | ⟨_, h⟩
  · exact con_59 l h
  cases h
theorem gr_60 {as : List Value} {M : tm_M} {r : tm_R} (h : F_60 as M = some r) : tm_gr M r.2 := tm_m_gr gg_60 h
theorem ck_60 : tm_cdk (tm_mt 60).1.cls false tm_mt (tm_mt 60) false cd_60 := tm_cdk_of (LK := lk_RX11) (ix := [94, 95, 96, 68, 96, 97, 96, 97, 96, 95, 96, 97, 96, 70, 96, 68, 98, 68, 95, 68, 70, 99, 94, 97, 99, 94, 70, 100, 96, 94, 96, 101, 97, 100, 94, 96, 101, 102, 98, 103, 104, 96, 70, 94, 97, 103, 94, 96, 105, 94, 97, 104, 94, 70, 94, 96, 94, 97, 99, 98, 94, 97, 106, 94, 68, 94, 70, 94, 96, 94, 97, 98, 94, 70, 98]) lc_RX11 (by decide +kernel)
theorem con_60 (l : Launch) {as : List Value} {M : tm_M} {r : tm_R} (h : F_60 as M = some r) : tm_MA tm_sh l (tm_mt 60) as M r := tm_sound (t := tm_mt 60) tm_Sok_ok tm_CL_ok gg_60 (gm_60 l) (fun _ _ => ⟨rfl, rfl⟩) ck_60 (by decide +kernel) (fun h => by cases h) (fun _ _ _ _ => tm_nos_all (by decide +kernel)) h
def cd_61 : List tm_E := [(0, .aload_n 0, 1, 0, 0, 0), (1, .getfield 189, 3, 11, 4, 0), (4, .ifCond .ne 7, 3, 11, 0, 0), (7, .iconst 1, 1, 0, 0, 0), (8, .goto 4, 3, 12, 0, 0), (11, .iconst 0, 1, 0, 0, 0), (12, .ireturn, 1, 0, 0, 0)]
def cu_61 : List (Nat × List Nat) := [(12, [])]
def G_61 : tm_G := fun _ _ _ => none
noncomputable def F_61 : List Value → tm_M → Option tm_R := tm_m tm_sh none G_61 true cd_61 cu_61 8 1
theorem gg_61 : tm_Gg G_61 := fun _ _ _ _ h => by cases h
theorem gm_61 (l : Launch) : ∀ id as M r, G_61 id as M = some r → tm_MA tm_sh l (tm_mt id) as M r := fun _ _ _ _ h => by cases h
theorem gr_61 {as : List Value} {M : tm_M} {r : tm_R} (h : F_61 as M = some r) : tm_gr M r.2 := tm_m_gr gg_61 h
theorem ck_61 : tm_cdk (tm_mt 61).1.cls false tm_mt (tm_mt 61) true cd_61 := tm_cdk_of (LK := lk_RX11) (ix := [107]) lc_RX11 (by decide +kernel)
theorem con_61 (l : Launch) {as : List Value} {M : tm_M} {r : tm_R} (h : F_61 as M = some r) : tm_MA tm_sh l (tm_mt 61) as M r := tm_sound (t := tm_mt 61) tm_Sok_ok tm_CL_ok gg_61 (gm_61 l) (fun _ _ => ⟨rfl, rfl⟩) ck_61 (by decide +kernel) (fun h => by cases h) (fun _ _ _ _ => tm_nos_all (by decide +kernel)) h
def cd_62 : List tm_E := [(0, .aload_n 0, 1, 0, 0, 0), (1, .getfield 248, 3, 11, 8, 0), (4, .iconst 3, 1, 0, 0, 0), (5, .if_icmp .ne 16, 3, 21, 0, 0), (8, .aload_n 0, 1, 0, 0, 0), (9, .getfield 255, 3, 11, 10, 1), (12, .lload_n 1, 1, 0, 0, 0), (13, .lcmp, 1, 0, 0, 0), (14, .ifCond .ne 7, 3, 21, 0, 0), (17, .iconst 1, 1, 0, 0, 0), (18, .goto 4, 3, 22, 0, 0), (21, .iconst 0, 1, 0, 0, 0), (22, .ireturn, 1, 0, 0, 0)]
def cu_62 : List (Nat × List Nat) := [(21, []), (22, [])]
def G_62 : tm_G := fun _ _ _ => none
noncomputable def F_62 : List Value → tm_M → Option tm_R := tm_m tm_sh none G_62 true cd_62 cu_62 14 3
theorem gg_62 : tm_Gg G_62 := fun _ _ _ _ h => by cases h
theorem gm_62 (l : Launch) : ∀ id as M r, G_62 id as M = some r → tm_MA tm_sh l (tm_mt id) as M r := fun _ _ _ _ h => by cases h
theorem gr_62 {as : List Value} {M : tm_M} {r : tm_R} (h : F_62 as M = some r) : tm_gr M r.2 := tm_m_gr gg_62 h
theorem ck_62 : tm_cdk (tm_mt 62).1.cls false tm_mt (tm_mt 62) true cd_62 := tm_cdk_of (LK := lk_RX11) (ix := [108, 101]) lc_RX11 (by decide +kernel)
theorem con_62 (l : Launch) {as : List Value} {M : tm_M} {r : tm_R} (h : F_62 as M = some r) : tm_MA tm_sh l (tm_mt 62) as M r := tm_sound (t := tm_mt 62) tm_Sok_ok tm_CL_ok gg_62 (gm_62 l) (fun _ _ => ⟨rfl, rfl⟩) ck_62 (by decide +kernel) (fun h => by cases h) (fun _ _ _ _ => tm_nos_all (by decide +kernel)) h
def cd_63 : List tm_E := [(0, .aload_n 0, 1, 0, 0, 0), (1, .getfield 189, 3, 11, 4, 0), (4, .ifCond .le 4, 3, 8, 0, 0), (7, .return_, 1, 0, 0, 0), (8, .aload_n 0, 1, 0, 0, 0), (9, .iload_n 1, 1, 0, 0, 0), (10, .putfield 189, 3, 11, 4, 0), (13, .aload_n 0, 1, 0, 0, 0), (14, .iload_n 2, 1, 0, 0, 0), (15, .putfield 16, 3, 11, 5, 0), (18, .return_, 1, 0, 0, 0)]
def cu_63 : List (Nat × List Nat) := []
def G_63 : tm_G := fun _ _ _ => none
noncomputable def F_63 : List Value → tm_M → Option tm_R := tm_m tm_sh none G_63 false cd_63 cu_63 12 3
theorem gg_63 : tm_Gg G_63 := fun _ _ _ _ h => by cases h
theorem gm_63 (l : Launch) : ∀ id as M r, G_63 id as M = some r → tm_MA tm_sh l (tm_mt id) as M r := fun _ _ _ _ h => by cases h
theorem gr_63 {as : List Value} {M : tm_M} {r : tm_R} (h : F_63 as M = some r) : tm_gr M r.2 := tm_m_gr gg_63 h
theorem ck_63 : tm_cdk (tm_mt 63).1.cls false tm_mt (tm_mt 63) false cd_63 := tm_cdk_of (LK := lk_RX11) (ix := [107, 66, 4]) lc_RX11 (by decide +kernel)
theorem con_63 (l : Launch) {as : List Value} {M : tm_M} {r : tm_R} (h : F_63 as M = some r) : tm_MA tm_sh l (tm_mt 63) as M r := tm_sound (t := tm_mt 63) tm_Sok_ok tm_CL_ok gg_63 (gm_63 l) (fun _ _ => ⟨rfl, rfl⟩) ck_63 (by decide +kernel) (fun h => by cases h) (fun _ _ _ _ => tm_nos_all (by decide +kernel)) h
def cd_64 : List tm_E := [(0, .aload_n 0, 1, 0, 0, 0), (1, .aload_n 0, 1, 0, 0, 0), (2, .getfield 248, 3, 11, 8, 0), (5, .iconst 1, 1, 0, 0, 0), (6, .if_icmp .ne 7, 3, 13, 0, 0), (9, .iconst 1, 1, 0, 0, 0), (10, .goto 4, 3, 14, 0, 0), (13, .iconst 2, 1, 0, 0, 0), (14, .aload_n 0, 1, 0, 0, 0), (15, .getfield 241, 3, 11, 6, 0), (18, .invokevirtual 272, 3, 63, 2, 44), (21, .return_, 1, 0, 0, 0)]
def cu_64 : List (Nat × List Nat) := [(14, [0]), (21, [])]
noncomputable def G_64 : tm_G := fun id as M => if id = 63 then F_63 as M else none
noncomputable def F_64 : List Value → tm_M → Option tm_R := tm_m tm_sh none G_64 false cd_64 cu_64 13 1
theorem gg_64 : tm_Gg G_64 := by
  intro id as M r h
  unfold G_64 at h
  rcases tm_ite_e h with ⟨_, h⟩ | ⟨_, h⟩
  · exact gr_63 h
  cases h
theorem gm_64 (l : Launch) : ∀ id as M r, G_64 id as M = some r → tm_MA tm_sh l (tm_mt id) as M r := by
  intro id as M r h
  unfold G_64 at h
  rcases tm_ite_e h with ⟨rfl, h⟩ | ⟨_, h⟩
  · exact con_63 l h
  cases h
theorem gr_64 {as : List Value} {M : tm_M} {r : tm_R} (h : F_64 as M = some r) : tm_gr M r.2 := tm_m_gr gg_64 h
theorem ck_64 : tm_cdk (tm_mt 64).1.cls false tm_mt (tm_mt 64) false cd_64 := tm_cdk_of (LK := lk_RX11) (ix := [108, 96, 109]) lc_RX11 (by decide +kernel)
theorem con_64 (l : Launch) {as : List Value} {M : tm_M} {r : tm_R} (h : F_64 as M = some r) : tm_MA tm_sh l (tm_mt 64) as M r := tm_sound (t := tm_mt 64) tm_Sok_ok tm_CL_ok gg_64 (gm_64 l) (fun _ _ => ⟨rfl, rfl⟩) ck_64 (by decide +kernel) (fun h => by cases h) (fun _ _ _ _ => tm_nos_all (by decide +kernel)) h
def cd_65 : List tm_E := [(0, .bipush 12, 2, 0, 0, 0), (2, .iload_n 1, 1, 0, 0, 0), (3, .imul, 1, 0, 0, 0), (4, .istore 4, 2, 0, 0, 0), (6, .iload 4, 2, 0, 0, 0), (8, .bipush 12, 2, 0, 0, 0), (10, .iload_n 1, 1, 0, 0, 0), (11, .imul, 1, 0, 0, 0), (12, .aload_n 0, 1, 0, 0, 0), (13, .getfield 24, 3, 11, 12, 2), (16, .iload_n 1, 1, 0, 0, 0), (17, .iaload, 1, 0, 0, 0), (18, .iadd, 1, 0, 0, 0), (19, .if_icmp .ge 29, 3, 48, 0, 0), (22, .aload_n 0, 1, 0, 0, 0), (23, .getfield 20, 3, 11, 11, 2), (26, .iload 4, 2, 0, 0, 0), (28, .laload, 1, 0, 0, 0), (29, .lload_n 2, 1, 0, 0, 0), (30, .lcmp, 1, 0, 0, 0), (31, .ifCond .ne 11, 3, 42, 0, 0), (34, .iload 4, 2, 0, 0, 0), (36, .bipush 12, 2, 0, 0, 0), (38, .iload_n 1, 1, 0, 0, 0), (39, .imul, 1, 0, 0, 0), (40, .isub, 1, 0, 0, 0), (41, .ireturn, 1, 0, 0, 0), (42, .iinc 4 1, 3, 0, 0, 0), (45, .goto (-39), 3, 6, 0, 0), (48, .iconst (-1), 1, 0, 0, 0), (49, .ireturn, 1, 0, 0, 0)]
def cu_65 : List (Nat × List Nat) := [(6, [0, 1, 2, 4])]
def G_65 : tm_G := fun _ _ _ => none
noncomputable def F_65 : List Value → tm_M → Option tm_R := tm_m tm_sh none G_65 false cd_65 cu_65 32 5
theorem gg_65 : tm_Gg G_65 := fun _ _ _ _ h => by cases h
theorem gm_65 (l : Launch) : ∀ id as M r, G_65 id as M = some r → tm_MA tm_sh l (tm_mt id) as M r := fun _ _ _ _ h => by cases h
theorem gr_65 {as : List Value} {M : tm_M} {r : tm_R} (h : F_65 as M = some r) : tm_gr M r.2 := tm_m_gr gg_65 h
theorem ck_65 : tm_cdk (tm_mt 65).1.cls false tm_mt (tm_mt 65) false cd_65 := tm_cdk_of (LK := lk_RX11) (ix := [110, 111]) lc_RX11 (by decide +kernel)
theorem con_65 (l : Launch) {as : List Value} {M : tm_M} {r : tm_R} (h : F_65 as M = some r) : tm_MA tm_sh l (tm_mt 65) as M r := tm_sound (t := tm_mt 65) tm_Sok_ok tm_CL_ok gg_65 (gm_65 l) (fun _ _ => ⟨rfl, rfl⟩) ck_65 (by decide +kernel) (fun h => by cases h) (fun _ _ _ _ => tm_nos_all (by decide +kernel)) h
def cd_66 : List tm_E := [(0, .aload_n 0, 1, 0, 0, 0), (1, .invokevirtual 276, 3, 61, 0, 45), (4, .ifCond .ne 4, 3, 8, 0, 0), (7, .return_, 1, 0, 0, 0), (8, .iload_n 1, 1, 0, 0, 0), (9, .ifCond .eq 10, 3, 19, 0, 0), (12, .aload_n 0, 1, 0, 0, 0), (13, .invokevirtual 280, 3, 60, 0, 44), (16, .goto 7, 3, 23, 0, 0), (19, .aload_n 0, 1, 0, 0, 0), (20, .invokevirtual 283, 3, 64, 0, 44), (23, .return_, 1, 0, 0, 0)]
def cu_66 : List (Nat × List Nat) := [(4, [0, 1]), (16, []), (23, [])]
noncomputable def G_66 : tm_G := fun id as M => if id = 61 then F_61 as M else if id = 60 then F_60 as M else if id = 64 then F_64 as M else none
noncomputable def F_66 : List Value → tm_M → Option tm_R := tm_m tm_sh none G_66 false cd_66 cu_66 13 2
theorem gg_66 : tm_Gg G_66 := by
  intro id as M r h
  unfold G_66 at h
  rcases tm_ite_e h with ⟨_, h⟩ | ⟨_, h⟩
  · exact gr_61 h
  rcases tm_ite_e h with ⟨_, h⟩ | ⟨_, h⟩
  · exact gr_60 h
  rcases tm_ite_e h with ⟨_, h⟩ | ⟨_, h⟩
  · exact gr_64 h
  cases h
theorem gm_66 (l : Launch) : ∀ id as M r, G_66 id as M = some r → tm_MA tm_sh l (tm_mt id) as M r := by
  intro id as M r h
  unfold G_66 at h
  rcases tm_ite_e h with ⟨rfl, h⟩ | ⟨_, h⟩
  · exact con_61 l h
  rcases tm_ite_e h with ⟨rfl, h⟩ | ⟨_, h⟩
  · exact con_60 l h
  rcases tm_ite_e h with ⟨rfl, h⟩ | ⟨_, h⟩
  · exact con_64 l h
  cases h
theorem gr_66 {as : List Value} {M : tm_M} {r : tm_R} (h : F_66 as M = some r) : tm_gr M r.2 := tm_m_gr gg_66 h
theorem ck_66 : tm_cdk (tm_mt 66).1.cls false tm_mt (tm_mt 66) false cd_66 := tm_cdk_of (LK := lk_RX11) (ix := [112, 113, 114]) lc_RX11 (by decide +kernel)
theorem con_66 (l : Launch) {as : List Value} {M : tm_M} {r : tm_R} (h : F_66 as M = some r) : tm_MA tm_sh l (tm_mt 66) as M r := tm_sound (t := tm_mt 66) tm_Sok_ok tm_CL_ok gg_66 (gm_66 l) (fun _ _ => ⟨rfl, rfl⟩) ck_66 (by decide +kernel) (fun h => by cases h) (fun _ _ _ _ => tm_nos_all (by decide +kernel)) h
def cd_67 : List tm_E := [(0, .aload_n 0, 1, 0, 0, 0), (1, .invokevirtual 276, 3, 61, 0, 45), (4, .ifCond .ne 5, 3, 9, 0, 0), (7, .iload_n 1, 1, 0, 0, 0), (8, .ireturn, 1, 0, 0, 0), (9, .aload_n 0, 1, 0, 0, 0), (10, .getfield 248, 3, 11, 8, 0), (13, .iconst 4, 1, 0, 0, 0), (14, .if_icmp .eq 7, 3, 21, 0, 0), (17, .aload_n 0, 1, 0, 0, 0), (18, .invokevirtual 283, 3, 64, 0, 44), (21, .aload_n 0, 1, 0, 0, 0), (22, .invokevirtual 276, 3, 61, 0, 45), (25, .ifCond .eq 28, 3, 53, 0, 0), (28, .aload_n 0, 1, 0, 0, 0), (29, .getfield 266, 3, 11, 9, 0), (32, .iload_n 1, 1, 0, 0, 0), (33, .if_icmp .lt 11, 3, 44, 0, 0), (36, .aload_n 0, 1, 0, 0, 0), (37, .getfield 266, 3, 11, 9, 0), (40, .iload_n 2, 1, 0, 0, 0), (41, .if_icmp .le 12, 3, 53, 0, 0), (44, .aload_n 0, 1, 0, 0, 0), (45, .iconst 4, 1, 0, 0, 0), (46, .aload_n 0, 1, 0, 0, 0), (47, .getfield 241, 3, 11, 6, 0), (50, .invokevirtual 272, 3, 63, 2, 44), (53, .aload_n 0, 1, 0, 0, 0), (54, .getfield 266, 3, 11, 9, 0), (57, .istore_n 3, 1, 0, 0, 0), (58, .aload_n 0, 1, 0, 0, 0), (59, .invokevirtual 276, 3, 61, 0, 45), (62, .ifCond .eq 7, 3, 69, 0, 0), (65, .aload_n 0, 1, 0, 0, 0), (66, .invokevirtual 280, 3, 60, 0, 44), (69, .aload_n 0, 1, 0, 0, 0), (70, .invokevirtual 276, 3, 61, 0, 45), (73, .ifCond .eq 7, 3, 80, 0, 0), (76, .iload_n 3, 1, 0, 0, 0), (77, .goto 4, 3, 81, 0, 0), (80, .iload_n 1, 1, 0, 0, 0), (81, .ireturn, 1, 0, 0, 0)]
def cu_67 : List (Nat × List Nat) := [(4, [0, 1, 2]), (21, [0, 1, 2]), (25, [0, 1, 2]), (44, [0, 1]), (53, [0, 1]), (62, [0, 1, 3]), (69, [0, 1, 3]), (73, [1, 3]), (81, [])]
noncomputable def G_67 : tm_G := fun id as M => if id = 61 then F_61 as M else if id = 64 then F_64 as M else if id = 63 then F_63 as M else if id = 60 then F_60 as M else none
noncomputable def F_67 : List Value → tm_M → Option tm_R := tm_m tm_sh none G_67 false cd_67 cu_67 43 4
theorem gg_67 : tm_Gg G_67 := by
  intro id as M r h
  unfold G_67 at h
  rcases tm_ite_e h with ⟨_, h⟩ | ⟨_, h⟩
  · exact gr_61 h
  rcases tm_ite_e h with ⟨_, h⟩ | ⟨_, h⟩
  · exact gr_64 h
  rcases tm_ite_e h with ⟨_, h⟩ | ⟨_, h⟩
  · exact gr_63 h
  rcases tm_ite_e h with ⟨_, h⟩ | ⟨_, h⟩
  · exact gr_60 h
  cases h
theorem gm_67 (l : Launch) : ∀ id as M r, G_67 id as M = some r → tm_MA tm_sh l (tm_mt id) as M r := by
  intro id as M r h
  unfold G_67 at h
  rcases tm_ite_e h with ⟨rfl, h⟩ | ⟨_, h⟩
  · exact con_61 l h
  rcases tm_ite_e h with ⟨rfl, h⟩ | ⟨_, h⟩
  · exact con_64 l h
  rcases tm_ite_e h with ⟨rfl, h⟩ | ⟨_, h⟩
  · exact con_63 l h
  rcases tm_ite_e h with ⟨rfl, h⟩ | ⟨_, h⟩
  · exact con_60 l h
  cases h
theorem gr_67 {as : List Value} {M : tm_M} {r : tm_R} (h : F_67 as M = some r) : tm_gr M r.2 := tm_m_gr gg_67 h
theorem ck_67 : tm_cdk (tm_mt 67).1.cls false tm_mt (tm_mt 67) false cd_67 := tm_cdk_of (LK := lk_RX11) (ix := [112, 108, 114, 112, 105, 105, 96, 109, 105, 112, 113, 112]) lc_RX11 (by decide +kernel)
theorem con_67 (l : Launch) {as : List Value} {M : tm_M} {r : tm_R} (h : F_67 as M = some r) : tm_MA tm_sh l (tm_mt 67) as M r := tm_sound (t := tm_mt 67) tm_Sok_ok tm_CL_ok gg_67 (gm_67 l) (fun _ _ => ⟨rfl, rfl⟩) ck_67 (by decide +kernel) (fun h => by cases h) (fun _ _ _ _ => tm_nos_all (by decide +kernel)) h
def cd_68 : List tm_E := [(0, .aload_n 0, 1, 0, 0, 0), (1, .getfield 248, 3, 11, 8, 0), (4, .bipush 6, 2, 0, 0, 0), (6, .if_icmp .ne 19, 3, 25, 0, 0), (9, .aload_n 0, 1, 0, 0, 0), (10, .aload_n 0, 1, 0, 0, 0), (11, .getfield 241, 3, 11, 6, 0), (14, .invokevirtual 244, 3, 55, 1, 45), (17, .iload_n 1, 1, 0, 0, 0), (18, .if_icmp .ne 7, 3, 25, 0, 0), (21, .iconst 1, 1, 0, 0, 0), (22, .goto 4, 3, 26, 0, 0), (25, .iconst 0, 1, 0, 0, 0), (26, .ireturn, 1, 0, 0, 0)]
def cu_68 : List (Nat × List Nat) := [(17, [1]), (25, []), (26, [])]
noncomputable def G_68 : tm_G := fun id as M => if id = 55 then F_55 as M else none
noncomputable def F_68 : List Value → tm_M → Option tm_R := tm_m tm_sh none G_68 true cd_68 cu_68 15 2
theorem gg_68 : tm_Gg G_68 := by
  intro id as M r h
  unfold G_68 at h
  rcases tm_ite_e h with ⟨_, h⟩ | ⟨_, h⟩
  · exact gr_55 h
  cases h
theorem gm_68 (l : Launch) : ∀ id as M r, G_68 id as M = some r → tm_MA tm_sh l (tm_mt id) as M r := by
  intro id as M r h
  unfold G_68 at h
  rcases tm_ite_e h with ⟨rfl, h⟩ | ⟨_, h⟩
  · exact con_55 l h
  cases h
theorem gr_68 {as : List Value} {M : tm_M} {r : tm_R} (h : F_68 as M = some r) : tm_gr M r.2 := tm_m_gr gg_68 h
theorem ck_68 : tm_cdk (tm_mt 68).1.cls false tm_mt (tm_mt 68) true cd_68 := tm_cdk_of (LK := lk_RX11) (ix := [108, 96, 97]) lc_RX11 (by decide +kernel)
theorem con_68 (l : Launch) {as : List Value} {M : tm_M} {r : tm_R} (h : F_68 as M = some r) : tm_MA tm_sh l (tm_mt 68) as M r := tm_sound (t := tm_mt 68) tm_Sok_ok tm_CL_ok gg_68 (gm_68 l) (fun _ _ => ⟨rfl, rfl⟩) ck_68 (by decide +kernel) (fun h => by cases h) (fun _ _ _ _ => tm_nos_all (by decide +kernel)) h
def cd_69 : List tm_E := [(0, .aload_n 0, 1, 0, 0, 0), (1, .invokevirtual 276, 3, 61, 0, 45), (4, .ifCond .eq 11, 3, 15, 0, 0), (7, .aload_n 0, 1, 0, 0, 0), (8, .lload_n 1, 1, 0, 0, 0), (9, .invokevirtual 286, 3, 62, 1, 45), (12, .ifCond .ne 5, 3, 17, 0, 0), (15, .iconst 0, 1, 0, 0, 0), (16, .ireturn, 1, 0, 0, 0), (17, .aload_n 0, 1, 0, 0, 0), (18, .invokevirtual 280, 3, 60, 0, 44), (21, .iconst 1, 1, 0, 0, 0), (22, .ireturn, 1, 0, 0, 0)]
def cu_69 : List (Nat × List Nat) := [(4, [0, 1]), (12, [0]), (15, []), (21, [])]
noncomputable def G_69 : tm_G := fun id as M => if id = 61 then F_61 as M else if id = 62 then F_62 as M else if id = 60 then F_60 as M else none
noncomputable def F_69 : List Value → tm_M → Option tm_R := tm_m tm_sh none G_69 true cd_69 cu_69 14 3
theorem gg_69 : tm_Gg G_69 := by
  intro id as M r h
  unfold G_69 at h
  rcases tm_ite_e h with ⟨_, h⟩ | ⟨_, h⟩
  · exact gr_61 h
  rcases tm_ite_e h with ⟨_, h⟩ | ⟨_, h⟩
  · exact gr_62 h
  rcases tm_ite_e h with ⟨_, h⟩ | ⟨_, h⟩
  · exact gr_60 h
  cases h
theorem gm_69 (l : Launch) : ∀ id as M r, G_69 id as M = some r → tm_MA tm_sh l (tm_mt id) as M r := by
  intro id as M r h
  unfold G_69 at h
  rcases tm_ite_e h with ⟨rfl, h⟩ | ⟨_, h⟩
  · exact con_61 l h
  rcases tm_ite_e h with ⟨rfl, h⟩ | ⟨_, h⟩
  · exact con_62 l h
  rcases tm_ite_e h with ⟨rfl, h⟩ | ⟨_, h⟩
  · exact con_60 l h
  cases h
theorem gr_69 {as : List Value} {M : tm_M} {r : tm_R} (h : F_69 as M = some r) : tm_gr M r.2 := tm_m_gr gg_69 h
theorem ck_69 : tm_cdk (tm_mt 69).1.cls false tm_mt (tm_mt 69) true cd_69 := tm_cdk_of (LK := lk_RX11) (ix := [112, 115, 113]) lc_RX11 (by decide +kernel)
theorem con_69 (l : Launch) {as : List Value} {M : tm_M} {r : tm_R} (h : F_69 as M = some r) : tm_MA tm_sh l (tm_mt 69) as M r := tm_sound (t := tm_mt 69) tm_Sok_ok tm_CL_ok gg_69 (gm_69 l) (fun _ _ => ⟨rfl, rfl⟩) ck_69 (by decide +kernel) (fun h => by cases h) (fun _ _ _ _ => tm_nos_all (by decide +kernel)) h
def cd_70 : List tm_E := [(0, .aload_n 0, 1, 0, 0, 0), (1, .getfield 241, 3, 11, 6, 0), (4, .istore_n 3, 1, 0, 0, 0), (5, .aload_n 0, 1, 0, 0, 0), (6, .iconst 0, 1, 0, 0, 0), (7, .aload_n 0, 1, 0, 0, 0), (8, .getfield 31, 3, 11, 14, 2), (11, .iload_n 1, 1, 0, 0, 0), (12, .iaload, 1, 0, 0, 0), (13, .iconst 1, 1, 0, 0, 0), (14, .isub, 1, 0, 0, 0), (15, .invokevirtual 322, 3, 67, 2, 45), (18, .istore 4, 2, 0, 0, 0), (20, .aload_n 0, 1, 0, 0, 0), (21, .invokevirtual 276, 3, 61, 0, 45), (24, .ifCond .eq 24, 3, 48, 0, 0), (27, .aload_n 0, 1, 0, 0, 0), (28, .getfield 46, 3, 11, 19, 2), (31, .bipush 8, 2, 0, 0, 0), (33, .iload_n 1, 1, 0, 0, 0), (34, .imul, 1, 0, 0, 0), (35, .iload 4, 2, 0, 0, 0), (37, .iadd, 1, 0, 0, 0), (38, .iaload, 1, 0, 0, 0), (39, .ifCond .lt 9, 3, 48, 0, 0), (42, .aload_n 0, 1, 0, 0, 0), (43, .iconst 5, 1, 0, 0, 0), (44, .iload_n 3, 1, 0, 0, 0), (45, .invokevirtual 272, 3, 63, 2, 44), (48, .aload_n 0, 1, 0, 0, 0), (49, .invokevirtual 276, 3, 61, 0, 45), (52, .ifCond .ne 4, 3, 56, 0, 0), (55, .return_, 1, 0, 0, 0), (56, .aload_n 0, 1, 0, 0, 0), (57, .getfield 46, 3, 11, 19, 2), (60, .bipush 8, 2, 0, 0, 0), (62, .iload_n 1, 1, 0, 0, 0), (63, .imul, 1, 0, 0, 0), (64, .iload 4, 2, 0, 0, 0), (66, .iadd, 1, 0, 0, 0), (67, .iload_n 2, 1, 0, 0, 0), (68, .iastore, 1, 0, 0, 0), (69, .aload_n 0, 1, 0, 0, 0), (70, .ldc2_w 200, 3, 29807, 0, 0), (73, .invokevirtual 333, 3, 69, 1, 45), (76, .ifCond .ne 4, 3, 80, 0, 0), (79, .return_, 1, 0, 0, 0), (80, .aload_n 0, 1, 0, 0, 0), (81, .getfield 241, 3, 11, 6, 0), (84, .istore_n 3, 1, 0, 0, 0), (85, .aload_n 0, 1, 0, 0, 0), (86, .iload 4, 2, 0, 0, 0), (88, .aload_n 0, 1, 0, 0, 0), (89, .getfield 31, 3, 11, 14, 2), (92, .iload_n 1, 1, 0, 0, 0), (93, .iaload, 1, 0, 0, 0), (94, .iconst 1, 1, 0, 0, 0), (95, .isub, 1, 0, 0, 0), (96, .invokevirtual 322, 3, 67, 2, 45), (99, .istore 5, 2, 0, 0, 0), (101, .iload 4, 2, 0, 0, 0), (103, .iconst 1, 1, 0, 0, 0), (104, .iadd, 1, 0, 0, 0), (105, .istore 6, 2, 0, 0, 0), (107, .iload 6, 2, 0, 0, 0), (109, .iload 5, 2, 0, 0, 0), (111, .if_icmp .gt 50, 3, 161, 0, 0), (114, .aload_n 0, 1, 0, 0, 0), (115, .invokevirtual 276, 3, 61, 0, 45), (118, .ifCond .eq 43, 3, 161, 0, 0), (121, .aload_n 0, 1, 0, 0, 0), (122, .getfield 46, 3, 11, 19, 2), (125, .bipush 8, 2, 0, 0, 0), (127, .iload_n 1, 1, 0, 0, 0), (128, .imul, 1, 0, 0, 0), (129, .iload 6, 2, 0, 0, 0), (131, .iadd, 1, 0, 0, 0), (132, .iaload, 1, 0, 0, 0), (133, .ifCond .lt 9, 3, 142, 0, 0), (136, .aload_n 0, 1, 0, 0, 0), (137, .iconst 5, 1, 0, 0, 0), (138, .iload_n 3, 1, 0, 0, 0), (139, .invokevirtual 272, 3, 63, 2, 44), (142, .aload_n 0, 1, 0, 0, 0), (143, .getfield 46, 3, 11, 19, 2), (146, .bipush 8, 2, 0, 0, 0), (148, .iload_n 1, 1, 0, 0, 0), (149, .imul, 1, 0, 0, 0), (150, .iload 6, 2, 0, 0, 0), (152, .iadd, 1, 0, 0, 0), (153, .iload_n 2, 1, 0, 0, 0), (154, .iastore, 1, 0, 0, 0), (155, .iinc 6 1, 3, 0, 0, 0), (158, .goto (-51), 3, 107, 0, 0), (161, .return_, 1, 0, 0, 0)]
def cu_70 : List (Nat × List Nat) := [(18, [0, 1, 2, 3]), (24, [0, 1, 2, 3, 4]), (48, [0, 1, 2, 4]), (52, [0, 1, 2, 4]), (76, [0, 1, 2, 4]), (99, [0, 1, 2, 3, 4]), (107, [0, 1, 2, 3, 5, 6]), (118, [0, 1, 2, 3, 5, 6]), (142, [0, 1, 2, 3, 5, 6]), (161, [])]
noncomputable def G_70 : tm_G := fun id as M => if id = 67 then F_67 as M else if id = 61 then F_61 as M else if id = 63 then F_63 as M else if id = 69 then F_69 as M else none
noncomputable def F_70 : List Value → tm_M → Option tm_R := tm_m tm_sh none G_70 false cd_70 cu_70 96 7
theorem gg_70 : tm_Gg G_70 := by
  intro id as M r h
  unfold G_70 at h
  rcases tm_ite_e h with ⟨_, h⟩ | ⟨_, h⟩
  · exact gr_67 h
  rcases tm_ite_e h with ⟨_, h⟩ | ⟨_, h⟩
  · exact gr_61 h
  rcases tm_ite_e h with ⟨_, h⟩ | ⟨_, h⟩
  · exact gr_63 h
  rcases tm_ite_e h with ⟨_, h⟩ | ⟨_, h⟩
  · exact gr_69 h
  cases h
theorem gm_70 (l : Launch) : ∀ id as M r, G_70 id as M = some r → tm_MA tm_sh l (tm_mt id) as M r := by
  intro id as M r h
  unfold G_70 at h
  rcases tm_ite_e h with ⟨rfl, h⟩ | ⟨_, h⟩
  · exact con_67 l h
  rcases tm_ite_e h with ⟨rfl, h⟩ | ⟨_, h⟩
  · exact con_61 l h
  rcases tm_ite_e h with ⟨rfl, h⟩ | ⟨_, h⟩
  · exact con_63 l h
  rcases tm_ite_e h with ⟨rfl, h⟩ | ⟨_, h⟩
  · exact con_69 l h
  cases h
theorem gr_70 {as : List Value} {M : tm_M} {r : tm_R} (h : F_70 as M = some r) : tm_gr M r.2 := tm_m_gr gg_70 h
theorem ck_70 : tm_cdk (tm_mt 70).1.cls false tm_mt (tm_mt 70) false cd_70 := tm_cdk_of (LK := lk_RX11) (ix := [96, 116, 117, 112, 118, 109, 112, 118, 75, 119, 96, 116, 117, 112, 118, 109, 118]) lc_RX11 (by decide +kernel)
theorem con_70 (l : Launch) {as : List Value} {M : tm_M} {r : tm_R} (h : F_70 as M = some r) : tm_MA tm_sh l (tm_mt 70) as M r := tm_sound (t := tm_mt 70) tm_Sok_ok tm_CL_ok gg_70 (gm_70 l) (fun _ _ => ⟨rfl, rfl⟩) ck_70 (by decide +kernel) (fun h => by cases h) (fun _ _ _ _ => tm_nos_all (by decide +kernel)) h
